import java.util.ArrayList;
import java.util.List;
import java.util.Random;

/** Long runs of calls, drawn from fixed seeds, on the class and on Paper: promises 1 to 17 at once. */
public final class PaperTest {
    private static final int RUNS = 400;
    private static final int CALLS = 510;
    private static final int[] WILD = {
        Integer.MIN_VALUE, -65536, -2, -1, 0, 1, 2, 3, 5, 8, 9, 10, 12, 13, 31, 32, 63, 64, 65, 255, 256, 511, 512,
        4095, 4096, 8192, 65536, 0x01FFFFFE, 0x7FFFFFFE, Integer.MAX_VALUE};

    private final Random random;
    private final RangeCoders real;
    private final Paper paper;
    private final String name;
    private final int wildness;
    private final List<int[]> message = new ArrayList<>();
    private int[] signs = new int[8];
    private int models;

    private PaperTest(int form, int run) {
        random = new Random(1000L * form + run);
        int shift = random.nextInt(14) - 2;
        int given = form == 0 && run % 20 == 0 ? -7 : form == 4 && run % 20 == 0 ? 99 : form;
        real = new RangeCoders(given, shift);
        paper = new Paper(given, shift);
        name = "form " + form + ", run " + run;
        wildness = run % 4 == 0 ? 5 : 100;
    }

    public static void main(String[] args) {
        for (int form = 0; form <= 4; form++) {
            for (int run = 0; run < RUNS; run++) {
                new PaperTest(form, run).run();
            }
        }
        Check.finish("PaperTest");
    }

    private void run() {
        int most = 1 + random.nextInt(3);
        for (int i = 0; i < most; i++) model(random.nextInt(3) == 0 ? 2 : 2 + random.nextInt(63));
        int called = most;
        while (called < CALLS) {
            int kind = random.nextInt(100);
            if (kind < 8) called += counts();
            else if (kind < 40) called += message();
            else if (kind < 60) called += readBack();
            else if (kind < 75) called += readNoise();
            else called += any();
        }
    }

    private int arg(int bound) {
        if (random.nextInt(wildness) == 0) return WILD[random.nextInt(WILD.length)];
        return bound < 1 ? 0 : random.nextInt(bound);
    }

    private int signOf(int model) {
        return arg(model >= 0 && model < models ? signs[model] : 3);
    }

    private int counts() {
        int many = 1 + random.nextInt(12);
        int model = arg(models);
        for (int i = 0; i < many; i++) {
            int v = switch (random.nextInt(4)) { case 0 -> 0; case 1 -> 4095; case 2 -> arg(6); default -> arg(4096); };
            int sign = signOf(model);
            due("count(" + model + ", " + sign + ", " + v + ")", real.count(model, sign, v), paper.count(model, sign, v));
        }
        return many;
    }

    private int message() {
        due("begin()", real.begin(), paper.begin());
        message.clear();
        int many = random.nextInt(random.nextInt(3) == 0 ? 100 : 12);
        boolean same = random.nextBoolean();
        int usual = arg(64);
        for (int i = 0; i < many; i++) {
            if (random.nextInt(4) == 0) {
                int width = 1 + arg(12);
                int value = width < 13 && random.nextBoolean() ? (1 << width) - 1 : arg(1 << Math.min(Math.max(width, 1), 13));
                bits(value, width);
            } else {
                int model = arg(models);
                put(model, same ? usual : signOf(model));
            }
        }
        if (random.nextInt(8) != 0) due("end()", real.end(), paper.end());
        int first = arg(20);
        for (int i = 0; i < 12; i++) due("out(" + (first + i) + ")", real.out(first + i), paper.out(first + i));
        return many + 14 + look();
    }

    private int readBack() {
        take(random.nextInt(4) == 0 ? arg(20) : 1);
        if (random.nextInt(4) == 0) spoil(arg(12), arg(256));
        if (random.nextInt(4) == 0) octets(random.nextInt());
        due("read()", real.read(), paper.read());
        int called = 4;
        for (int[] item : message) {
            if (item[0] < 0) getBits(item[1]);
            else get(item[0]);
            called++;
        }
        return called + look();
    }

    private int readNoise() {
        if (random.nextInt(3) != 0) take(0);
        int many = random.nextInt(4);
        for (int i = 0; i < many; i++) octets(random.nextInt(3) == 0 ? WILD[random.nextInt(WILD.length)] : random.nextInt());
        due("read()", real.read(), paper.read());
        int items = random.nextInt(12);
        for (int i = 0; i < items; i++) {
            if (random.nextBoolean()) getBits(1 + arg(12));
            else get(arg(models));
            if (random.nextInt(6) == 0) octets(random.nextInt());
            if (random.nextInt(6) == 0) spoil(arg(20), arg(256));
        }
        return many + 4 * items + 2 + look();
    }

    private int any() {
        switch (random.nextInt(8)) {
            case 0: model(arg(70)); break;
            case 1: put(arg(models), arg(8)); break;
            case 2: bits(arg(16), 1 + arg(12)); break;
            case 3: due("end()", real.end(), paper.end()); break;
            case 4: take(arg(8)); break;
            case 5: octets(random.nextInt()); break;
            case 6: get(arg(models)); break;
            default: getBits(1 + arg(12)); break;
        }
        return 1;
    }

    private int look() {
        for (int what = -1; what <= 8; what++) due("told(" + what + ")", real.told(what), paper.told(what));
        for (int what = -1; what <= 6; what++) due("state(" + what + ")", real.state(what), paper.state(what));
        int model = arg(models);
        for (int i = 0; i < 4; i++) {
            int sign = signOf(model);
            due("chance(" + model + ", " + sign + ")", real.chance(model, sign), paper.chance(model, sign));
        }
        return 22;
    }

    private void model(int n) {
        int got = real.model(n);
        due("model(" + n + ")", got, paper.model(n));
        if (got >= 0) {
            signs[got] = n;
            models = got + 1;
        }
    }

    private void put(int model, int sign) {
        int got = real.put(model, sign);
        due("put(" + model + ", " + sign + ")", got, paper.put(model, sign));
        if (got > 0) message.add(new int[] {model, sign});
    }

    private void bits(int value, int width) {
        int got = real.bits(value, width);
        due("bits(" + value + ", " + width + ")", got, paper.bits(value, width));
        if (got > 0) message.add(new int[] {-1, width});
    }

    private void octets(int four) {
        due("octets(" + four + ")", real.octets(four), paper.octets(four));
    }

    private void take(int n) {
        due("take(" + n + ")", real.take(n), paper.take(n));
    }

    private void spoil(int i, int turned) {
        due("spoil(" + i + ", " + turned + ")", real.spoil(i, turned), paper.spoil(i, turned));
    }

    private void get(int model) {
        due("get(" + model + ")", real.get(model), paper.get(model));
    }

    private void getBits(int width) {
        due("getBits(" + width + ")", real.getBits(width), paper.getBits(width));
    }

    private void due(String call, long got, long want) {
        Check.due(name + ": " + call, got, want);
    }
}
