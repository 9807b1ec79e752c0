/** Objects as the tests of the bounds need them. */
final class Given {
    private Given() {
    }

    /** An object with one model, whose signs have these COUNTS. */
    static RangeCoders counts(int form, int... counts) {
        RangeCoders x = new RangeCoders(form, 4);
        model(x, counts);
        return x;
    }

    /** One more model with these COUNTS. */
    static int model(RangeCoders x, int... counts) {
        int made = x.model(counts.length);
        for (int sign = 0; sign < counts.length; sign++) x.count(made, sign, counts[sign]);
        return made;
    }

    /** A reading of just these bytes begins, four in each number. */
    static void reading(RangeCoders x, int... fours) {
        x.take(0);
        for (int four : fours) x.octets(four);
        x.read();
    }

    /** The message that was ENDED is read from its first byte on. */
    static void readingOfOut(RangeCoders x) {
        x.take(1);
        x.read();
    }
}
