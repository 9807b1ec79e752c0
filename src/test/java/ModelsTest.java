/** Promises 1 (a new object), 2 (model), 3 (count) and 17 (chance). */
public final class ModelsTest {
    public static void main(String[] args) {
        for (int form = 0; form <= 4; form++) {
            newObject(form);
            models(form);
            counts(form);
        }
        nearestForm();
        nearestShift();
        learntChances();
        chancesOfNodes();
        chancesBehindEnded();
        modelsMadeLate();
        Check.finish("ModelsTest");
    }

    private static void newObject(int form) {
        String in = "a new object of form " + form + ": ";
        RangeCoders x = new RangeCoders(form, 4);
        for (int what = 0; what <= 7; what++) Check.due(in + "told(" + what + ")", x.told(what), 0);
        Check.due(in + "state(0)", x.state(0), 0);
        Check.due(in + "state(1)", x.state(1), form < 3 ? 0xFFFFFFFFL : 0);
        for (int what = 2; what <= 5; what++) Check.due(in + "state(" + what + ")", x.state(what), 0);
        Check.due(in + "out(0)", x.out(0), -1);
        Check.due(in + "spoil(0, 1)", x.spoil(0, 1), -1);
        Check.due(in + "put(0, 0)", x.put(0, 0), -1);
        Check.due(in + "get(0)", x.get(0), -1);
        Check.due(in + "chance(0, 1)", x.chance(0, 1), -1);
        Check.due(in + "count(0, 0, 1)", x.count(0, 0, 1), -1);
        Check.due(in + "getBits(1)", x.getBits(1), -3);
        Check.due(in + "take(1)", x.take(1), 0);
        Check.due(in + "take(3)", x.take(3), -2);
        Check.due(in + "begin()", x.begin(), 0);
    }

    /** The bytes of an empty message tell 3, 4 and the others apart; a sign's bytes tell 0 and 2. */
    private static void nearestForm() {
        RangeCoders low = new RangeCoders(Integer.MIN_VALUE, 4);
        low.model(3);
        Check.due("form MIN_VALUE is 0: chance(0, 0)", low.chance(0, 0), 1);
        Check.due("form MIN_VALUE is 0: end()", low.end(), 4);
        RangeCoders high = new RangeCoders(Integer.MAX_VALUE, 4);
        Check.due("form MAX_VALUE is 4: end()", high.end(), 2);
        Check.due("form 5 is 4: end()", new RangeCoders(5, 4).end(), 2);
        Check.due("form -1 is 0: state(1)", new RangeCoders(-1, 4).state(1), 0xFFFFFFFFL);
    }

    private static void nearestShift() {
        int[][] shiftAndChance = {{Integer.MIN_VALUE, 512}, {0, 512}, {1, 512}, {2, 768}, {4, 960}, {9, 1022},
            {10, 1023}, {11, 1023}, {Integer.MAX_VALUE, 1023}};
        for (int[] each : shiftAndChance) {
            RangeCoders x = new RangeCoders(2, each[0]);
            x.model(2);
            x.put(0, 1);
            Check.due("shift " + each[0] + ": chance(0, 1)", x.chance(0, 1), each[1]);
        }
    }

    private static void models(int form) {
        String in = "form " + form + ": ";
        RangeCoders x = new RangeCoders(form, 4);
        int[] wrong = {Integer.MIN_VALUE, -1, 0, 1, 65, Integer.MAX_VALUE};
        for (int n : wrong) Check.due(in + "model(" + n + ")", x.model(n), -2);
        for (int i = 0; i < 8; i++) {
            int n = i == 0 ? 2 : i == 7 ? 64 : 3 * i;
            Check.due(in + "model(" + n + ")", x.model(n), i);
            Check.due(in + "its last sign", x.count(i, n - 1, 1), 1);
            Check.due(in + "no sign behind it", x.count(i, n, 1), -1);
        }
        Check.due(in + "model(2), the ninth", x.model(2), -4);
        Check.due(in + "model(1), the ninth", x.model(1), -2);
        Check.due(in + "put(8, 0)", x.put(8, 0), -1);
        Check.due(in + "put(7, 63)", x.put(7, 63), 1);
    }

    private static void counts(int form) {
        String in = "form " + form + ": ";
        RangeCoders x = new RangeCoders(form, 4);
        x.model(3);
        Check.due(in + "1 at first", x.count(0, 2, 4095), 1);
        Check.due(in + "what it was", x.count(0, 2, 0), 4095);
        Check.due(in + "what it was then", x.count(0, 2, 7), 0);
        Check.due(in + "count(0, 2, 4096)", x.count(0, 2, 4096), -2);
        Check.due(in + "count(0, 2, -1)", x.count(0, 2, -1), -2);
        Check.due(in + "count(0, 3, -1)", x.count(0, 3, -1), -1);
        Check.due(in + "count(0, -1, 1)", x.count(0, -1, 1), -1);
        Check.due(in + "count(1, 0, 1)", x.count(1, 0, 1), -1);
        Check.due(in + "count(-1, 0, 1)", x.count(-1, 0, 1), -1);
        x.put(0, 1);
        Check.due(in + "with an item", x.count(0, 2, 8), -3);
        Check.due(in + "-2 ahead of -3", x.count(0, 2, 4096), -2);
        x.end();
        Check.due(in + "ENDED", x.count(0, 2, 9), 7);
        x.read();
        Check.due(in + "a reading goes on", x.count(0, 2, 10), -3);
        x.take(-1);
        Check.due(in + "it still goes on", x.count(0, 2, 10), -3);
        x.take(0);
        Check.due(in + "no reading", x.count(0, 2, 10), 9);
        x.begin();
        x.bits(1, 1);
        Check.due(in + "a VALUE is an item, too", x.count(0, 2, 11), -3);
        x.begin();
        Check.due(in + "no items again", x.count(0, 2, 11), 10);
    }

    private static void learntChances() {
        for (int form = 0; form <= 1; form++) {
            RangeCoders x = new RangeCoders(form, 4);
            x.model(3);
            x.put(0, 1);
            Check.due("a sign's F grows by 32", x.chance(0, 1), 33);
            Check.due("another's stays", x.chance(0, 0), 1);
            x.bits(1, 2);
            Check.due("a VALUE teaches nothing", x.chance(0, 1), 33);
            x.begin();
            Check.due("a new message forgets", x.chance(0, 1), 1);
            x.count(0, 0, 4095);
            x.count(0, 1, 4064);
            x.put(0, 1);
            Check.due("8192 is not above 8192", x.chance(0, 1), 4096);
            x.put(0, 2);
            Check.due("behind 8192: first", x.chance(0, 0), 2048);
            Check.due("behind 8192: second", x.chance(0, 1), 2048);
            Check.due("behind 8192: third", x.chance(0, 2), 17);
        }
    }

    private static void chancesOfNodes() {
        RangeCoders x = new RangeCoders(2, 5);
        x.model(5);
        x.count(0, 1, 0);
        Check.due("no NODE 0", x.chance(0, 0), -1);
        Check.due("NODE 7", x.chance(0, 7), 1024);
        Check.due("no NODE 8", x.chance(0, 8), -1);
        Check.due("a sign with the COUNT 0", x.put(0, 1), 1);
        Check.due("NODE 1 behind 0", x.chance(0, 1), 1056);
        Check.due("NODE 2 behind 0", x.chance(0, 2), 1056);
        Check.due("NODE 4 behind 1", x.chance(0, 4), 992);
        Check.due("NODE 3 was not asked", x.chance(0, 3), 1024);
        x.model(2);
        Check.due("two signs, one NODE", x.chance(1, 1), 1024);
        Check.due("two signs, no NODE 2", x.chance(1, 2), -1);
        x.end();
        Check.due("NODE 1 behind ENDED", x.chance(0, 1), 1056);
        x.begin();
        Check.due("NODE 1 of a new message", x.chance(0, 1), 1024);
    }

    private static void chancesBehindEnded() {
        int[] before = {33, 33, 0, 2048, 256};
        int[] behind = {4, 4, 0, 3277, 410};
        for (int form = 0; form <= 4; form++) {
            if (form == 2) continue;
            RangeCoders x = new RangeCoders(form, 4);
            x.model(2);
            x.put(0, 0);
            x.end();
            x.count(0, 0, 4);
            Check.due("form " + form + ": as it ended", x.chance(0, 0), before[form]);
            x.take(1);
            x.read();
            x.get(0);
            Check.due("form " + form + ": a reading learns apart", x.chance(0, 0), before[form]);
            x.begin();
            Check.due("form " + form + ": till begin()", x.chance(0, 0), behind[form]);
        }
    }

    private static void modelsMadeLate() {
        int[] first = {1, 1, 1024, 2048, 256};
        for (int form = 0; form <= 4; form++) {
            RangeCoders x = new RangeCoders(form, 4);
            x.bits(1, 1);
            x.read();
            Check.due("form " + form + ": a model in a message", x.model(2), 0);
            Check.due("form " + form + ": its F", x.chance(0, 1), first[form]);
            Check.due("form " + form + ": its sign", x.put(0, 1), 2);
            x.end();
            Check.due("form " + form + ": a model behind ENDED", x.model(2), 1);
            Check.due("form " + form + ": its F there", x.chance(1, 1), first[form]);
            x.take(1);
            x.read();
            x.model(2);
            Check.due("form " + form + ": the VALUE", x.getBits(1), 1);
            Check.due("form " + form + ": a model as new as the other reads alike", x.get(2), 1);
        }
    }
}
