/** Promises 9 (octets), 10 (take), 11 (spoil), 12 (read), 13 (get) and 14 (getBits); where they are BAD is told by form. */
public final class ReadingTest {
    public static void main(String[] args) {
        for (int form = 0; form <= 4; form++) {
            octets(form);
            takes(form);
            spoils(form);
            readsWhatWasPut(form);
            wrongArguments(form);
            noSigns(form);
            bytesThatComeLater(form);
            readsWithNewCounts(form);
        }
        Check.finish("ReadingTest");
    }

    private static void octets(int form) {
        String in = "form " + form + ": ";
        RangeCoders x = new RangeCoders(form, 4);
        Check.due(in + "octets", x.octets(0x01020384), 4);
        Check.due(in + "octets again", x.octets(0xFF000000), 8);
        int[] bytes = {1, 2, 3, 0x84, 0xFF, 0, 0, 0};
        for (int i = 0; i < 8; i++) Check.due(in + "byte " + i, x.spoil(i, 0), bytes[i]);
        Check.due(in + "no byte 8", x.spoil(8, 0), -1);
        Check.due(in + "no OUT comes of it", x.told(2), 0);
    }

    private static void takes(int form) {
        String in = "form " + form + ": ";
        RangeCoders x = new RangeCoders(form, 4);
        for (int i = 0; i < 10; i++) x.bits(i, 8);
        int bytes = x.end();
        x.octets(7);
        Check.due(in + "take(-1)", x.take(-1), -2);
        Check.due(in + "take(MIN_VALUE)", x.take(Integer.MIN_VALUE), -2);
        Check.due(in + "one too many", x.take(bytes + 3), -2);
        Check.due(in + "take(MAX_VALUE)", x.take(Integer.MAX_VALUE), -2);
        Check.due(in + "IN is as it was", x.told(3), 4);
        Check.due(in + "all of it by number", x.take(bytes + 2), bytes);
        Check.due(in + "all of it", x.take(1), bytes);
        for (int i = 0; i < bytes; i++) Check.due(in + "byte " + i, x.spoil(i, 0), x.out(i));
        Check.due(in + "three bytes", x.take(5), 3);
        for (int i = 0; i < 3; i++) Check.due(in + "byte " + i + " of three", x.spoil(i, 0), x.out(i));
        Check.due(in + "no fourth", x.spoil(3, 0), -1);
        Check.due(in + "first 0 bytes", x.take(2), 0);
        x.read();
        Check.due(in + "a reading", x.told(7), 1);
        Check.due(in + "a wrong take", x.take(-5), -2);
        Check.due(in + "the reading goes on", x.told(7), 1);
        Check.due(in + "empty", x.take(0), 0);
        Check.due(in + "no reading then", x.told(7), 0);
        Check.due(in + "no VALUE then", x.getBits(1), -3);
    }

    private static void spoils(int form) {
        String in = "form " + form + ": ";
        RangeCoders x = new RangeCoders(form, 4);
        x.bits(1, 8);
        x.end();
        x.take(1);
        int before = x.out(1);
        Check.due(in + "turned", x.spoil(1, 0xA5), before ^ 0xA5);
        Check.due(in + "OUT stays", x.out(1), before);
        Check.due(in + "turned back", x.spoil(1, 0xA5), before);
        Check.due(in + "255", x.spoil(1, 255), before ^ 255);
        Check.due(in + "256", x.spoil(1, 256), -2);
        Check.due(in + "-1", x.spoil(1, -1), -2);
        Check.due(in + "no byte -1", x.spoil(-1, 1), -1);
        Check.due(in + "-1 ahead of -2", x.spoil(x.told(3), 256), -1);
        Check.due(in + "nothing changed", x.spoil(1, 0), before ^ 255);
    }

    private static void readsWhatWasPut(int form) {
        String in = "form " + form + ": ";
        RangeCoders x = new RangeCoders(form, 3);
        x.model(5);
        x.model(2);
        x.model(64);
        for (int i = 0; i < 64; i++) x.count(2, i, i * i);
        x.count(1, 1, 0);
        for (int i = 0; i < 60; i++) putOne(x, i);
        int bytes = x.end();
        x.take(1);
        Check.due(in + "read() tells the bytes of IN", x.read(), bytes);
        for (int i = 0; i < 60; i++) Check.due(in + "item " + i, getOne(x, i), numberOf(i));
        Check.due(in + "items read", x.told(4), 60);
        Check.due(in + "not BAD", x.told(6), 0);
        Check.due(in + "read() once more", x.read(), bytes);
        for (int i = 0; i < 20; i++) Check.due(in + "item " + i + " once more", getOne(x, i), numberOf(i));
    }

    private static int numberOf(int i) {
        return i % 4 == 0 ? i % 5 : i % 4 == 1 ? 0 : i % 4 == 2 ? 1 + i % 63 : i * 37 % 512;
    }

    private static int putOne(RangeCoders x, int i) {
        return i % 4 == 3 ? x.bits(numberOf(i), 9) : x.put(i % 4, numberOf(i));
    }

    private static int getOne(RangeCoders x, int i) {
        return i % 4 == 3 ? x.getBits(9) : x.get(i % 4);
    }

    private static void wrongArguments(int form) {
        String in = "form " + form + ": ";
        int widest = form == 4 ? 9 : 12;
        RangeCoders x = new RangeCoders(form, 4);
        x.model(4);
        Check.due(in + "get without a reading", x.get(0), -3);
        Check.due(in + "getBits without a reading", x.getBits(1), -3);
        Check.due(in + "get: -1 ahead of -3", x.get(1), -1);
        Check.due(in + "getBits: -2 ahead of -3", x.getBits(0), -2);
        x.octets(0x12345678);
        x.read();
        Check.due(in + "get(-1)", x.get(-1), -1);
        Check.due(in + "get(1)", x.get(1), -1);
        Check.due(in + "get(MAX_VALUE)", x.get(Integer.MAX_VALUE), -1);
        Check.due(in + "getBits(0)", x.getBits(0), -2);
        Check.due(in + "getBits(-1)", x.getBits(-1), -2);
        Check.due(in + "getBits too wide", x.getBits(widest + 1), -2);
        Check.due(in + "nothing was read", x.told(4), 0);
        Check.due(in + "nothing was asked for", x.told(5), form == 4 ? 2 : 4);
        Check.due(in + "a sign comes", x.get(0) >= 0 ? 1 : 0, 1);
        x.octets(1);
        x.spoil(0, 1);
        Check.due(in + "octets and spoil leave the reading", x.told(4), 1);
        x.begin();
        Check.due(in + "begin leaves the reading", x.told(7), 1);
    }

    private static void noSigns(int form) {
        if (form == 2) return;
        String in = "form " + form + ": ";
        RangeCoders x = new RangeCoders(form, 4);
        x.model(2);
        x.model(2);
        x.count(0, 0, 0);
        x.count(0, 1, 0);
        x.octets(0x20000000);
        x.octets(0);
        x.read();
        Check.due(in + "a model with signs", x.get(1), 0);
        long code = x.state(2);
        long state = x.state(5);
        Check.due(in + "a model without signs", x.get(0), -5);
        Check.due(in + "BAD", x.told(6), 1);
        Check.due(in + "items read", x.told(4), 1);
        Check.due(in + "CODE is as before", x.state(2), code);
        Check.due(in + "X is as before", x.state(5), state);
        Check.due(in + "BAD from then on", x.get(1), -5);
        Check.due(in + "BAD for VALUES, too", x.getBits(1), -5);
        Check.due(in + "-1 ahead of -5", x.get(2), -1);
        Check.due(in + "-2 ahead of -5", x.getBits(13), -2);
        x.read();
        Check.due(in + "a new reading is not BAD", x.told(6), 0);
    }

    private static void bytesThatComeLater(int form) {
        String in = "form " + form + ": ";
        RangeCoders x = new RangeCoders(form, 4);
        for (int i = 0; i < 8; i++) x.bits(200 + i, 8);
        x.end();
        int[] b = new int[16];
        for (int i = 0; i < 16; i++) b[i] = Math.max(0, x.out(i));
        x.take(0);
        x.octets(b[0] << 24 | b[1] << 16 | b[2] << 8 | b[3]);
        x.read();
        for (int i = 4; i < 16; i += 4) x.octets(b[i] << 24 | b[i + 1] << 16 | b[i + 2] << 8 | b[i + 3]);
        for (int i = 0; i < 8; i++) Check.due(in + "VALUE " + i, x.getBits(8), 200 + i);
        RangeCoders y = new RangeCoders(4, 4);
        y.octets(0);
        y.read();
        for (int i = 0; i < 4; i++) Check.due("past IN there are 0s", y.getBits(9), 0);
        Check.due("45 bits were asked for", y.told(5), 6);
        y.octets(0x0001FFFF);
        Check.due("what was asked for is past", y.getBits(9), 0b001111111);
    }

    private static void readsWithNewCounts(int form) {
        if (form == 2) return;
        RangeCoders x = new RangeCoders(form, 4);
        x.model(2);
        x.bits(0, 9);
        x.end();
        x.count(0, 0, 0);
        x.take(1);
        x.read();
        Check.due("form " + form + ": COUNTS as the reading begins", x.get(0), 1);
    }
}
