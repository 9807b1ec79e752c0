/** Counts the answers that are not as due; every test ends with finish(). */
final class Check {
    private static int wrong;
    private static int asked;

    private Check() {
    }

    static void due(String what, long got, long want) {
        asked++;
        if (got != want) {
            wrong++;
            System.out.println(what + " answered " + got + ", due is " + want);
        }
    }

    /** OUT is exactly these bytes. */
    static void bytes(String what, RangeCoders coders, int... want) {
        due(what + ": bytes of OUT", coders.told(2), want.length);
        for (int i = 0; i < want.length; i++) {
            due(what + ": out(" + i + ")", coders.out(i), want[i]);
        }
        due(what + ": out behind the last", coders.out(want.length), -1);
    }

    static void finish(String test) {
        System.out.println(test + ": " + (asked - wrong) + " of " + asked + " answers are as due");
        if (wrong != 0) {
            System.exit(1);
        }
    }
}
