import java.util.ArrayList;
import java.util.List;

/**
 * "-1 .. -2 .. -3 .. -4 .. -5 ..; the first that fits; then nothing changes": every refused call, in every form, at
 * every stage of an object. Of two objects with the same calls one gets the refused call as well; from there on all
 * that they show, and all that later calls answer, must be the same.
 */
public final class RefusedTest {
    private interface Call {
        long on(RangeCoders x);
    }

    private record Refusal(String name, long due, Call call) {
    }

    private static final int NEW = 0;
    private static final int MODELS = 1;
    private static final int ITEMS = 2;
    private static final int ENDED = 3;
    private static final int BEGUN = 4;
    private static final int READING = 5;
    private static final int BAD = 6;
    private static final int ALL_MODELS = 7;
    private static final String[] STAGES = {
        "new", "with models", "with items", "ENDED", "begun again", "reading", "BAD", "with eight models"};

    private final int form;
    private final int stage;
    private final List<Refusal> refusals = new ArrayList<>();

    private RefusedTest(int form, int stage) {
        this.form = form;
        this.stage = stage;
    }

    public static void main(String[] args) {
        for (int form = 0; form <= 4; form++) {
            for (int stage = NEW; stage <= ALL_MODELS; stage++) new RefusedTest(form, stage).run();
            fullMessage(form);
            fullIn(form);
        }
        Check.finish("RefusedTest");
    }

    private void run() {
        ofAnyStage();
        ofModels();
        ofMessages();
        ofReadings();
        for (Refusal each : refusals) {
            String name = "form " + form + ", " + STAGES[stage] + ", " + each.name();
            RangeCoders plain = reached();
            RangeCoders tried = reached();
            Check.due(name, each.call().on(tried), each.due());
            same(name + ", then", tried, plain);
        }
    }

    private boolean hasModels() {
        return stage != NEW;
    }

    private boolean isEnded() {
        return stage == ENDED || stage == READING || stage == BAD;
    }

    private boolean isRead() {
        return stage == READING || stage == BAD;
    }

    private void add(String name, long due, Call call) {
        refusals.add(new Refusal(name, due, call));
    }

    // ---- the stages

    private RangeCoders reached() {
        RangeCoders x = new RangeCoders(form, 3);
        if (stage == NEW) return x;
        giveModels(x);
        if (stage == ALL_MODELS) for (int i = 3; i < 8; i++) x.model(2 + i);
        if (stage == MODELS || stage == ALL_MODELS) return x;
        x.put(0, 0);
        x.put(1, 2);
        x.bits(5, 3);
        x.put(0, 4);
        if (stage == ITEMS) return x;
        x.end();
        if (stage == BEGUN) x.begin();
        if (stage == READING) {
            x.take(1);
            x.read();
            x.get(0);
        }
        if (stage == BAD) makeBad(x);
        return x;
    }

    /** Signs 1 of model 0 and both of model 2 have an F of 0, but of form 2. */
    private static void giveModels(RangeCoders x) {
        x.model(5);
        x.model(3);
        x.model(2);
        x.count(0, 1, 0);
        x.count(0, 4, 9);
        x.count(2, 0, 0);
        x.count(2, 1, 0);
    }

    /** FFFFFFFFh is RANGE itself, and three times the third of it; X of form 4 is never BAD, a model without signs is. */
    private void makeBad(RangeCoders x) {
        x.take(0);
        x.octets(form == 3 ? 0x007FFFFF : -1);
        x.read();
        if (form < 3) x.get(1);
        if (form == 4) x.get(2);
    }

    // ---- the refused calls

    private void ofAnyStage() {
        int[] signs = {Integer.MIN_VALUE, -1, 0, 1, 65, Integer.MAX_VALUE};
        for (int n : signs) add("model(" + n + ")", -2, x -> x.model(n));
        if (stage == ALL_MODELS) {
            add("model(2)", -4, x -> x.model(2));
            add("model(64)", -4, x -> x.model(64));
        }
        int[] models = {Integer.MIN_VALUE, -1, stage == ALL_MODELS ? 8 : hasModels() ? 3 : 0, 8, Integer.MAX_VALUE};
        for (int m : models) {
            add("count(" + m + ", 0, 1)", -1, x -> x.count(m, 0, 1));
            add("count(" + m + ", 0, 4096)", -1, x -> x.count(m, 0, 4096));
            add("put(" + m + ", 0)", -1, x -> x.put(m, 0));
            add("get(" + m + ")", -1, x -> x.get(m));
            add("chance(" + m + ", 1)", -1, x -> x.chance(m, 1));
        }
        int[] whats = {Integer.MIN_VALUE, -1, 8, Integer.MAX_VALUE};
        for (int what : whats) {
            add("told(" + what + ")", -2, x -> x.told(what));
            add("state(" + what + ")", -2, x -> x.state(what));
        }
        add("state(6)", -2, x -> x.state(6));
    }

    private void ofModels() {
        if (!hasModels()) return;
        int[] signs = {Integer.MIN_VALUE, -1, 5, 64, Integer.MAX_VALUE};
        for (int sign : signs) {
            add("count(0, " + sign + ", 1)", -1, x -> x.count(0, sign, 1));
            add("count(0, " + sign + ", -1)", -1, x -> x.count(0, sign, -1));
            add("put(0, " + sign + ")", -1, x -> x.put(0, sign));
            if (form != 2 || sign != 5) add("chance(0, " + sign + ")", -1, x -> x.chance(0, sign));
        }
        if (form == 2) {
            add("chance(0, 0)", -1, x -> x.chance(0, 0));
            add("chance(0, 8)", -1, x -> x.chance(0, 8));
        }
        int[] counts = {Integer.MIN_VALUE, -1, 4096, Integer.MAX_VALUE};
        for (int v : counts) add("count(0, 0, " + v + ")", -2, x -> x.count(0, 0, v));
        if (stage == ITEMS || isRead()) {
            add("count(0, 0, 7)", -3, x -> x.count(0, 0, 7));
            add("count(2, 1, 0)", -3, x -> x.count(2, 1, 0));
        }
    }

    private void ofMessages() {
        int widest = form == 4 ? 9 : 12;
        int[] widths = {Integer.MIN_VALUE, -1, 0, widest + 1, 31, 32, 33, Integer.MAX_VALUE};
        for (int width : widths) add("bits(0, " + width + ")", -2, x -> x.bits(0, width));
        int[][] values = {{-1, 3}, {8, 3}, {2, 1}, {1 << widest, widest}, {Integer.MIN_VALUE, 1}, {Integer.MAX_VALUE, widest}};
        for (int[] v : values) add("bits(" + v[0] + ", " + v[1] + ")", -2, x -> x.bits(v[0], v[1]));
        if (isEnded()) {
            add("bits(1, 1)", -3, x -> x.bits(1, 1));
            add("put(0, 0)", -3, x -> x.put(0, 0));
            add("end()", -3, x -> x.end());
        }
        if (hasModels() && (isEnded() || form != 2)) {
            add("put(0, 1), a COUNT of 0", -3, x -> x.put(0, 1));
            add("put(2, 1), all COUNTS 0", -3, x -> x.put(2, 1));
        }
        add("out(-1)", -1, x -> x.out(-1));
        add("out(MIN_VALUE)", -1, x -> x.out(Integer.MIN_VALUE));
        add("out(MAX_VALUE)", -1, x -> x.out(Integer.MAX_VALUE));
        add("out behind the last", -1, x -> x.out(x.told(2)));
    }

    private void ofReadings() {
        add("take(-1)", -2, x -> x.take(-1));
        add("take(MIN_VALUE)", -2, x -> x.take(Integer.MIN_VALUE));
        add("take(MAX_VALUE)", -2, x -> x.take(Integer.MAX_VALUE));
        add("take of one too many", -2, x -> x.take(x.told(2) + 3));
        add("spoil(-1, 1)", -1, x -> x.spoil(-1, 1));
        add("spoil(MIN_VALUE, 1)", -1, x -> x.spoil(Integer.MIN_VALUE, 1));
        add("spoil(MAX_VALUE, 1)", -1, x -> x.spoil(Integer.MAX_VALUE, 1));
        add("spoil behind the last", -1, x -> x.spoil(x.told(3), 1));
        add("spoil behind the last, 256", -1, x -> x.spoil(x.told(3), 256));
        if (isRead()) {
            int[] turned = {Integer.MIN_VALUE, -1, 256, Integer.MAX_VALUE};
            for (int each : turned) add("spoil(0, " + each + ")", -2, x -> x.spoil(0, each));
        }
        int[] widths = {Integer.MIN_VALUE, -1, 0, form == 4 ? 10 : 13, 32, Integer.MAX_VALUE};
        for (int width : widths) add("getBits(" + width + ")", -2, x -> x.getBits(width));
        if (!isRead()) add("getBits(1)", -3, x -> x.getBits(1));
        if (!isRead() && hasModels()) add("get(0)", -3, x -> x.get(0));
        if (stage == BAD) {
            add("getBits(1)", -5, x -> x.getBits(1));
            add("get(0)", -5, x -> x.get(0));
            add("get(2)", -5, x -> x.get(2));
        }
    }

    // ---- what the calls behind it show

    private static void same(String name, RangeCoders tried, RangeCoders plain) {
        List<Long> got = shownBy(tried);
        List<Long> want = shownBy(plain);
        Check.due(name + ": answers", got.size(), want.size());
        for (int i = 0; i < Math.min(got.size(), want.size()); i++) {
            Check.due(name + ": answer " + i + " of shownBy", got.get(i), want.get(i));
        }
    }

    private static List<Long> shownBy(RangeCoders x) {
        List<Long> seen = new ArrayList<>();
        look(x, seen);
        tell(seen, x.get(0), x.getBits(2), x.get(1));
        look(x, seen);
        tell(seen, x.bits(2, 2), x.put(1, 1), x.put(0, 4), x.end());
        look(x, seen);
        tell(seen, x.take(0));
        for (int model = 0; model < 3; model++) {
            for (int sign = 0; sign < 5 - model; sign++) tell(seen, x.count(model, sign, 3 + sign));
        }
        tell(seen, x.begin(), x.put(0, 1), x.put(1, 0), x.bits(1, 1), x.end(), x.take(1), x.read());
        tell(seen, x.get(0), x.get(1), x.getBits(1), x.model(2), x.model(2));
        look(x, seen);
        return seen;
    }

    private static void tell(List<Long> seen, long... answers) {
        for (long each : answers) seen.add(each);
    }

    private static void look(RangeCoders x, List<Long> seen) {
        for (int what = 0; what <= 7; what++) seen.add((long) x.told(what));
        for (int what = 0; what <= 5; what++) seen.add(x.state(what));
        for (int model = 0; model < 3; model++) {
            for (int sign = 0; sign < 8; sign++) seen.add((long) x.chance(model, sign));
        }
        for (int i = 0; i < x.told(2); i++) seen.add((long) x.out(i));
        for (int i = 0; i < x.told(3); i++) seen.add((long) x.spoil(i, 0));
    }

    // ---- more than 512 calls: 600 items and 6000 bytes cannot be met with fewer

    private static void fullMessage(int form) {
        String name = "form " + form + ", 600 items: ";
        RangeCoders plain = withItems(form);
        RangeCoders tried = withItems(form);
        Check.due(name + "a sign", tried.put(0, 0), -4);
        Check.due(name + "a VALUE", tried.bits(1, 1), -4);
        Check.due(name + "no such sign", tried.put(0, 5), -1);
        Check.due(name + "no such model", tried.put(3, 0), -1);
        Check.due(name + "no such VALUE", tried.bits(2, 1), -2);
        Check.due(name + "an F of 0", tried.put(0, 1), form == 2 ? -4 : -3);
        Check.due(name + "no signs", tried.put(2, 0), form == 2 ? -4 : -3);
        same(name + "then", tried, plain);
        RangeCoders ended = withItems(form);
        ended.end();
        Check.due(name + "ENDED, a sign", ended.put(0, 0), -3);
        Check.due(name + "ENDED, a VALUE", ended.bits(1, 1), -3);
        Check.due(name + "ENDED, begin()", ended.begin(), 600);
        Check.due(name + "a new message has room", ended.put(0, 0), 1);
    }

    private static RangeCoders withItems(int form) {
        RangeCoders x = new RangeCoders(form, 3);
        giveModels(x);
        for (int i = 1; i <= 600; i++) {
            Check.due("form " + form + ", item " + i, i % 3 == 0 ? x.bits(i % 4, 2) : x.put(1, i % 3), i);
        }
        return x;
    }

    /** IN of 6000 bytes, and of 5997 to 5999, where four more have no room either. */
    private static void fullIn(int form) {
        for (int odd = 0; odd < 4; odd++) {
            String name = "form " + form + ", IN of " + (odd == 0 ? 6000 : 5996 + odd) + ": ";
            RangeCoders x = new RangeCoders(form, 3);
            for (int i = 0; i < 10; i++) x.bits(i, 8);
            x.end();
            Check.due(name + "the first", x.take(odd + 2), odd);
            int most = odd == 0 ? 6000 : 5996 + odd;
            for (int size = odd + 4; size <= most; size += 4) Check.due(name + "octets", x.octets(0x01020304), size);
            x.read();
            Check.due(name + "no room", x.octets(-1), -4);
            Check.due(name + "bytes", x.told(3), most);
            Check.due(name + "the last byte", x.spoil(most - 1, 0), 4);
            Check.due(name + "none behind it", x.spoil(most, 0), -1);
            Check.due(name + "the reading goes on", x.told(7), 1);
            Check.due(name + "room again", x.take(1) > 0 ? 1 : 0, 1);
            Check.due(name + "and octets", x.octets(5), x.told(2) + 4);
        }
    }
}
