/** Counts the answers that are not as due; every test ends with finish(). */
final class Check {
    private static int wrong;
    private static int asked;

    private Check() {
    }

    static void due(String what, long got, long want) {
        asked++;
        if (got != want) {
            wrong++;
            System.out.println(what + " answered " + got + ", due is " + want);
        }
    }

    /** OUT is exactly these bytes. */
    static void bytes(String what, RangeCoders coders, int... want) {
        due(what + ": bytes of OUT", coders.told(2), want.length);
        for (int i = 0; i < want.length; i++) {
            due(what + ": out(" + i + ")", coders.out(i), want[i]);
        }
        due(what + ": out behind the last", coders.out(want.length), -1);
    }

    /** The F of all signs of model 0, and no more signs. */
    static void chances(String what, RangeCoders coders, int... want) {
        for (int sign = 0; sign < want.length; sign++) {
            due(what + ": chance(0, " + sign + ")", coders.chance(0, sign), want[sign]);
        }
        due(what + ": chance of the sign behind", coders.chance(0, want.length), -1);
        due(what + ": chance of the sign ahead", coders.chance(0, -1), -1);
    }

    static void message(String what, RangeCoders coders, long low, long range) {
        due(what + ": LOW", coders.state(0), low);
        due(what + ": RANGE", coders.state(1), range);
    }

    static void reading(String what, RangeCoders coders, long code, long range, int asked) {
        due(what + ": CODE", coders.state(2), code);
        due(what + ": RANGE of the reading", coders.state(4), range);
        due(what + ": bytes asked for", coders.told(5), asked);
    }

    static void finish(String test) {
        System.out.println(test + ": " + (asked - wrong) + " of " + asked + " answers are as due");
        if (wrong != 0) {
            System.exit(1);
        }
    }
}
