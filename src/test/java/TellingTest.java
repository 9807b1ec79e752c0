/** Promises 15 (told) and 16 (state). */
public final class TellingTest {
    public static void main(String[] args) {
        for (int form = 0; form <= 4; form++) {
            told(form);
            outside(form);
        }
        bytesAskedFor();
        statesOfForms();
        Check.finish("TellingTest");
    }

    private static void told(int form) {
        RangeCoders x = new RangeCoders(form, 4);
        x.model(2);
        all("form " + form + " new", x, 0, 0, 0, 0, 0, 0, 0, 0);
        x.put(0, 0);
        x.bits(3, 2);
        all("form " + form + " with items", x, 2, 0, 0, 0, 0, 0, 0, 0);
        int bytes = x.end();
        all("form " + form + " ENDED", x, 2, 1, bytes, 0, 0, 0, 0, 0);
        x.take(1);
        all("form " + form + " taken", x, 2, 1, bytes, bytes, 0, 0, 0, 0);
        x.read();
        int asked = form == 4 ? 2 : 4;
        all("form " + form + " read", x, 2, 1, bytes, bytes, 0, asked, 0, 1);
        x.get(0);
        all("form " + form + " and a sign", x, 2, 1, bytes, bytes, 1, asked, 0, 1);
        x.octets(1);
        x.begin();
        all("form " + form + " begun", x, 0, 0, bytes, bytes + 4, 1, asked, 0, 1);
        x.take(3);
        all("form " + form + " taken again", x, 0, 0, bytes, 1, 0, 0, 0, 0);
    }

    private static void all(String when, RangeCoders x, int... due) {
        for (int what = 0; what < due.length; what++) {
            Check.due(when + ": told(" + what + ")", x.told(what), due[what]);
        }
    }

    private static void outside(int form) {
        RangeCoders x = new RangeCoders(form, 4);
        int[] wrong = {Integer.MIN_VALUE, -1, 8, Integer.MAX_VALUE};
        for (int what : wrong) Check.due("told(" + what + ")", x.told(what), -2);
        int[] none = {Integer.MIN_VALUE, -1, 6, Integer.MAX_VALUE};
        for (int what : none) Check.due("state(" + what + ")", x.state(what), -2);
    }

    private static void bytesAskedFor() {
        RangeCoders x = new RangeCoders(4, 4);
        x.octets(0);
        x.read();
        x.getBits(7);
        Check.due("16 bits", x.told(5), 2);
        x.getBits(1);
        Check.due("17 bits", x.told(5), 3);
        RangeCoders y = new RangeCoders(0, 4);
        y.read();
        Check.due("four bytes of nothing", y.told(5), 4);
        y.getBits(8);
        Check.due("one more", y.told(5), 5);
        Check.due("RANGE is wide again", y.state(4), 0xFFFFFF00L);
    }

    private static void statesOfForms() {
        for (int form = 0; form <= 4; form++) {
            String in = "form " + form + ": ";
            RangeCoders x = new RangeCoders(form, 4);
            x.octets(0x12345678);
            x.octets(0x9ABCDEF0);
            Check.due(in + "CODE without a reading", x.state(2), 0);
            Check.due(in + "RANGE without a reading", x.state(4), 0);
            Check.due(in + "X without a reading", x.state(5), 0);
            x.read();
            Check.due(in + "LOW of the message", x.state(0), 0);
            Check.due(in + "RANGE of the message", x.state(1), form < 3 ? 0xFFFFFFFFL : 0);
            Check.due(in + "CODE", x.state(2), form < 3 ? 0x12345678L : 0);
            Check.due(in + "LOW", x.state(3), 0);
            Check.due(in + "RANGE", x.state(4), form < 3 ? 0xFFFFFFFFL : 0);
            Check.due(in + "X", x.state(5), form == 3 ? 0x12345678L : form == 4 ? 512 + 0x24 : 0);
            x.getBits(4);
            Check.due(in + "CODE behind a VALUE", x.state(2), new long[] {0x02345679L, 0x12345678L, 0x02345679L, 0, 0}[form]);
            Check.due(in + "LOW behind a VALUE", x.state(3), form == 1 ? 0x0FFFFFFFL : 0);
            Check.due(in + "RANGE behind a VALUE", x.state(4), form < 3 ? 0x0FFFFFFFL : 0);
            Check.due(in + "X behind a VALUE", x.state(5), form == 3 ? 0x01234578L : form == 4 ? 512 + 0x24 : 0);
            x.take(1);
            for (int what = 2; what <= 5; what++) Check.due(in + "state(" + what + ") behind take", x.state(what), 0);
        }
    }
}
