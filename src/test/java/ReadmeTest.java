/** The example of README.md answers what README.md says, in every form. */
public final class ReadmeTest {
    public static void main(String[] args) {
        for (int form = 0; form <= 4; form++) example(form);
        Check.finish("ReadmeTest");
    }

    private static void example(int form) {
        String what = "form " + form + ": ";
        RangeCoders coders = new RangeCoders(form, 4);
        int model = coders.model(3);
        Check.due(what + "count", coders.count(model, 2, 100), 1);
        Check.due(what + "put a first sign", coders.put(model, 2), 1);
        Check.due(what + "put a second sign", coders.put(model, 0), 2);
        Check.due(what + "bits", coders.bits(5, 3), 3);
        int bytes = coders.end();
        Check.due(what + "the last byte is one", coders.out(bytes - 1) >= 0 ? 1 : 0, 1);
        Check.due(what + "none behind it", coders.out(bytes), RangeCoders.NONE);

        Check.due(what + "take", coders.take(1), bytes);
        Check.due(what + "read", coders.read(), bytes);
        Check.due(what + "get the first sign", coders.get(model), 2);
        Check.due(what + "get the second sign", coders.get(model), 0);
        Check.due(what + "getBits", coders.getBits(3), 5);
    }
}
