import java.math.BigInteger;
import java.util.ArrayList;
import java.util.List;

/**
 * The document once more, written apart from the class: a message is worked out from its first item on at every
 * question, the bytes of forms 0 and 2 are one great number (so no carries), and a reading goes from one unchanging
 * Place to the next, so that a BAD item leaves no trace.
 */
final class Paper {
    private static final long ALL = 0xFFFFFFFFL;

    /** model is -1 for a VALUE. */
    private record Item(int model, int number, int width) {
    }

    private record Place(long code, long low, long range, long x, int asked, List<List<Integer>> f) {
    }

    private record Sent(long low, long range, List<Integer> bytes, List<List<Integer>> f) {
    }

    private final int form;
    private final int shift;
    private final List<List<Integer>> counts = new ArrayList<>();
    private final List<Item> items = new ArrayList<>();
    private List<List<Integer>> countsOfMessage = new ArrayList<>();
    private boolean ended;
    private List<Integer> out = new ArrayList<>();
    private List<Integer> in = new ArrayList<>();
    private Place place;
    private boolean bad;
    private int itemsRead;
    private int number;

    Paper(int form, int shift) {
        this.form = form < 0 ? 0 : form > 4 ? 4 : form;
        this.shift = shift < 1 ? 1 : shift > 10 ? 10 : shift;
    }

    int model(int n) {
        if (n < 2 || n > 64) return -2;
        if (counts.size() == 8) return -4;
        List<Integer> ones = new ArrayList<>();
        for (int i = 0; i < n; i++) ones.add(1);
        counts.add(ones);
        countsOfMessage.add(new ArrayList<>(ones));
        if (place != null) place.f().add(fresh(ones));
        return counts.size() - 1;
    }

    int count(int model, int sign, int v) {
        if (unknown(model) || sign < 0 || sign >= counts.get(model).size()) return -1;
        if (v < 0 || v > 4095) return -2;
        if (!items.isEmpty() && !ended || place != null) return -3;
        if (!ended) countsOfMessage.get(model).set(sign, v);
        return counts.get(model).set(sign, v);
    }

    int put(int model, int sign) {
        if (unknown(model) || sign < 0 || sign >= counts.get(model).size()) return -1;
        if (ended || form != 2 && work(false).f().get(model).get(sign) == 0) return -3;
        if (items.size() == 600) return -4;
        items.add(new Item(model, sign, 0));
        return items.size();
    }

    int bits(int value, int width) {
        if (badWidth(width) || value < 0 || value > (1 << width) - 1) return -2;
        if (ended) return -3;
        if (items.size() == 600) return -4;
        items.add(new Item(-1, value, width));
        return items.size();
    }

    int end() {
        if (ended) return -3;
        ended = true;
        out = work(true).bytes();
        return out.size();
    }

    int begin() {
        int before = items.size();
        items.clear();
        ended = false;
        countsOfMessage = copy(counts);
        return before;
    }

    int out(int i) {
        return i < 0 || i >= out.size() ? -1 : out.get(i);
    }

    int octets(int four) {
        if (in.size() > 5996) return -4;
        for (byte b : BigInteger.valueOf(four & ALL | 1L << 32).toByteArray()) in.add(b & 255);
        in.remove(in.size() - 5);
        return in.size();
    }

    int take(int n) {
        if (n < 0 || n > out.size() + 2) return -2;
        in = new ArrayList<>(n == 0 ? List.of() : n == 1 ? out : out.subList(0, n - 2));
        place = null;
        bad = false;
        itemsRead = 0;
        return in.size();
    }

    int spoil(int i, int turned) {
        if (i < 0 || i >= in.size()) return -1;
        if (turned < 0 || turned > 255) return -2;
        in.set(i, in.get(i) ^ turned);
        return in.get(i);
    }

    int read() {
        bad = false;
        itemsRead = 0;
        List<List<Integer>> f = new ArrayList<>();
        for (List<Integer> each : counts) f.add(fresh(each));
        long first = 0;
        for (int i = 0; i < (form == 4 ? 9 : 4); i++) first = form == 4 ? 2 * first + bit(i) : 256 * first + octet(i);
        if (form < 3) place = new Place(first, 0, ALL, 0, 4, f);
        if (form == 3) place = new Place(0, 0, 0, first, 4, f);
        if (form == 4) place = new Place(0, 0, 0, 512 + first, 9, f);
        bad = form == 3 && first < 1 << 23;
        return in.size();
    }

    int get(int model) {
        if (unknown(model)) return -1;
        if (place == null) return -3;
        return went(bad ? null : next(new Item(model, 0, 0)));
    }

    int getBits(int width) {
        if (badWidth(width)) return -2;
        if (place == null) return -3;
        return went(bad ? null : next(new Item(-1, 0, width)));
    }

    int told(int what) {
        if (what == 0) return items.size();
        if (what == 1) return ended ? 1 : 0;
        if (what == 2) return out.size();
        if (what == 3) return in.size();
        if (what == 4) return itemsRead;
        if (what == 5) return place == null ? 0 : form == 4 ? (place.asked() + 7) / 8 : place.asked();
        if (what == 6) return bad ? 1 : 0;
        if (what == 7) return place == null ? 0 : 1;
        return -2;
    }

    long state(int what) {
        if (what < 0 || what > 5) return -2;
        if (form < 3 && what == 0) return work(ended).low();
        if (form < 3 && what == 1) return work(ended).range();
        if (place == null) return 0;
        if (form < 3 && what == 2) return place.code();
        if (form == 1 && what == 3) return place.low();
        if (form < 3 && what == 4) return place.range();
        return form >= 3 && what == 5 ? place.x() : 0;
    }

    int chance(int model, int sign) {
        if (unknown(model)) return -1;
        List<Integer> f = work(false).f().get(model);
        if (form == 2 && sign == 0 || sign < 0 || sign >= f.size()) return -1;
        return f.get(sign);
    }

    private boolean unknown(int model) {
        return model < 0 || model >= counts.size();
    }

    private boolean badWidth(int width) {
        return width < 1 || width > (form == 4 ? 9 : 12);
    }

    private int went(Place to) {
        if (to == null) {
            bad = true;
            return -5;
        }
        place = to;
        itemsRead++;
        return number;
    }

    private int octet(int i) {
        return i < in.size() ? in.get(i) : 0;
    }

    private int bit(int i) {
        return octet(i / 8) >> 7 - i % 8 & 1;
    }

    private static List<List<Integer>> copy(List<List<Integer>> rows) {
        List<List<Integer>> made = new ArrayList<>();
        for (List<Integer> row : rows) made.add(new ArrayList<>(row));
        return made;
    }

    private static int sum(List<Integer> row) {
        int all = 0;
        for (int each : row) all += each;
        return all;
    }

    // ---- F

    private List<Integer> fresh(List<Integer> its) {
        List<Integer> f = new ArrayList<>(its);
        if (form < 2) while (sum(f) > 8192) halve(f);
        if (form == 2) {
            f.clear();
            for (int i = 0; i < 1 << levels(its.size()); i++) f.add(1024);
        }
        if (form > 2 && sum(its) > 0) scale(f, form == 3 ? 4096 : 512);
        return f;
    }

    private static void halve(List<Integer> f) {
        f.replaceAll(each -> (each + 1) / 2);
    }

    private static int levels(int n) {
        return 32 - Integer.numberOfLeadingZeros(n - 1);
    }

    private static void scale(List<Integer> f, int whole) {
        int all = sum(f);
        f.replaceAll(each -> each == 0 ? 0 : Math.max(1, each * whole / all));
        while (sum(f) > whole) f.set(first(f), f.get(first(f)) - 1);
        f.set(first(f), f.get(first(f)) + whole - sum(f));
    }

    private static int first(List<Integer> f) {
        int best = 0;
        for (int i = 0; i < f.size(); i++) if (f.get(i) > f.get(best)) best = i;
        return best;
    }

    private static void learn(List<Integer> f, int sign) {
        f.set(sign, f.get(sign) + 32);
        if (sum(f) > 8192) halve(f);
    }

    private void lean(List<Integer> p, int node, int bit) {
        int is = p.get(node);
        p.set(node, bit == 0 ? is + ((2048 - is) >> shift) : is - (is >> shift));
    }

    // ---- the message

    private Sent work(boolean closed) {
        List<List<Integer>> f = new ArrayList<>();
        for (List<Integer> each : countsOfMessage) f.add(fresh(each));
        if (form == 1) return wrapped(f, closed);
        if (form == 3) return new Sent(0, 0, stacked(f), f);
        if (form == 4) return new Sent(0, 0, tabled(f), f);
        return great(f, closed);
    }

    /** Adds to a LOW that never loses a byte; of the register only the lowest 32 bits and one carry are seen. */
    private static final class Great {
        BigInteger all = BigInteger.ZERO;
        long low;
        long range = ALL;
        int bytes = 4;

        void add(long more) {
            all = all.add(BigInteger.valueOf(more));
            low += more;
        }

        void widen() {
            while (range < 1 << 24) {
                range *= 256;
                all = all.shiftLeft(8);
                low = low % (1 << 24) * 256;
                bytes++;
            }
        }

        List<Integer> bytes() {
            List<Integer> made = new ArrayList<>();
            for (int i = bytes - 1; i >= 0; i--) made.add(all.shiftRight(8 * i).intValue() & 255);
            return made;
        }
    }

    private Sent great(List<List<Integer>> f, boolean closed) {
        Great g = new Great();
        for (Item item : items) {
            if (form == 0) {
                long[] part = part(f, item);
                long r = g.range / part[2];
                g.add(r * part[1]);
                g.range = r * part[0];
                g.widen();
                if (item.model() >= 0) learn(f.get(item.model()), item.number());
            } else {
                bitwise(g, f, item);
            }
        }
        return new Sent(closed ? 0 : g.low, g.range, g.bytes(), f);
    }

    private void bitwise(Great g, List<List<Integer>> f, Item item) {
        int many = item.model() < 0 ? item.width() : levels(counts.get(item.model()).size());
        for (int i = many - 1, node = 1; i >= 0; i--) {
            int bit = item.number() >> i & 1;
            long b = item.model() < 0 ? g.range / 2 : g.range / 2048 * f.get(item.model()).get(node);
            if (bit == 1) g.add(b);
            g.range = item.model() < 0 || bit == 0 ? b : g.range - b;
            if (item.model() >= 0) lean(f.get(item.model()), node, bit);
            node = 2 * node + bit;
            g.widen();
        }
    }

    /** f, c, t */
    private static long[] part(List<List<Integer>> f, Item item) {
        if (item.model() < 0) return new long[] {1, item.number(), 1L << item.width()};
        List<Integer> its = f.get(item.model());
        return new long[] {its.get(item.number()), sum(its.subList(0, item.number())), sum(its)};
    }

    private Sent wrapped(List<List<Integer>> f, boolean closed) {
        int low = 0;
        int range = -1;
        List<Integer> bytes = new ArrayList<>();
        for (Item item : items) {
            long[] part = part(f, item);
            int r = Integer.divideUnsigned(range, (int) part[2]);
            low += r * (int) part[1];
            range = r * (int) part[0];
            while (true) {
                if ((low ^ low + range) >>> 24 != 0) {
                    if (Integer.compareUnsigned(range, 1 << 16) >= 0) break;
                    range = -low & 0xFFFF;
                }
                bytes.add(low >>> 24);
                low <<= 8;
                range <<= 8;
            }
            if (item.model() >= 0) learn(f.get(item.model()), item.number());
        }
        for (int i = 24; i >= 0; i -= 8) bytes.add(low >>> i & 255);
        return new Sent(closed ? 0 : low & ALL, range & ALL, bytes, f);
    }

    private List<Integer> stacked(List<List<Integer>> f) {
        List<Integer> bytes = new ArrayList<>();
        long x = 1 << 23;
        for (int i = items.size() - 1; i >= 0; i--) {
            long[] part = part(f, items.get(i));
            long its = items.get(i).model() < 0 ? 4096 / part[2] : part[0];
            long c = items.get(i).model() < 0 ? its * part[1] : part[1];
            while (x >= its << 19) {
                bytes.add(0, (int) (x % 256));
                x /= 256;
            }
            x = x / its * 4096 + x % its + c;
        }
        for (int i = 0; i < 4; i++) bytes.add(0, (int) (x >> 8 * i & 255));
        return bytes;
    }

    /** The PLACES of one sign in rising order. */
    private static List<Integer> places(List<Integer> f, int sign) {
        List<Integer> its = new ArrayList<>();
        int before = sum(f.subList(0, sign));
        for (int i = 0; i < f.get(sign); i++) its.add((before + i) * 323 % 512);
        its.sort(null);
        return its;
    }

    private List<Integer> tabled(List<List<Integer>> f) {
        StringBuilder bits = new StringBuilder();
        int x = 512;
        for (int i = items.size() - 1; i >= 0; i--) {
            Item item = items.get(i);
            if (item.model() < 0) {
                for (int k = 0; k < item.width(); k++) bits.append(item.number() >> k & 1);
                continue;
            }
            int its = f.get(item.model()).get(item.number());
            while (x >= 2 * its) {
                bits.append(x & 1);
                x >>= 1;
            }
            x = 512 + places(f.get(item.model()), item.number()).get(x - its);
        }
        for (int k = 0; k < 9; k++) bits.append(x - 512 >> k & 1);
        bits.reverse();
        while (bits.length() % 8 != 0) bits.append('0');
        List<Integer> bytes = new ArrayList<>();
        for (int i = 0; i < bits.length(); i += 8) bytes.add(Integer.parseInt(bits.substring(i, i + 8), 2));
        return bytes;
    }

    // ---- the reading: from one Place to the next, null if BAD; the item's number goes into 'number'

    private Place next(Item item) {
        if (form == 2) return nextBits(item);
        if (form == 4 && item.model() < 0) return nextPlain(item.width());
        List<List<Integer>> f = copy(place.f());
        List<Integer> its = item.model() < 0 ? List.of() : f.get(item.model());
        if (item.model() >= 0 && sum(its) == 0) return null;
        if (form == 3) return nextStacked(item, its, f);
        if (form == 4) return nextTabled(its, f);
        return nextPart(item, its, f);
    }

    private Place nextPart(Item item, List<Integer> its, List<List<Integer>> f) {
        long t = item.model() < 0 ? 1L << item.width() : sum(its);
        long r = place.range() / t;
        if (r == 0) return null;
        long v = (place.code() - place.low() & ALL) / r;
        if (v >= t) return null;
        number = item.model() < 0 ? (int) v : signOf(its, (int) v);
        long[] part = part(f, new Item(item.model(), number, item.width()));
        if (item.model() >= 0) learn(its, number);
        long range = r * part[0];
        int asked = place.asked();
        if (form == 0) {
            long code = place.code() - r * part[1];
            for (; range < 1 << 24; range *= 256) code = code * 256 + octet(asked++);
            return new Place(code, 0, range, 0, asked, f);
        }
        long code = place.code();
        long low = place.low() + r * part[1] & ALL;
        while (low >> 24 == (low + range & ALL) >> 24 || range < 1 << 16) {
            if (low >> 24 != (low + range & ALL) >> 24) range = -low & 0xFFFF;
            low = low << 8 & ALL;
            range = range << 8 & ALL;
            code = (code << 8 & ALL) + octet(asked++);
        }
        return new Place(code, low, range, 0, asked, f);
    }

    private static int signOf(List<Integer> its, int v) {
        int sign = 0;
        while (sum(its.subList(0, sign + 1)) <= v) sign++;
        return sign;
    }

    private Place nextBits(Item item) {
        List<List<Integer>> f = copy(place.f());
        long code = place.code();
        long range = place.range();
        int asked = place.asked();
        if (code >= range) return null;
        boolean plain = item.model() < 0;
        int many = plain ? item.width() : levels(counts.get(item.model()).size());
        int node = 1;
        for (int i = 0; i < many; i++) {
            long b = plain ? range / 2 : range / 2048 * f.get(item.model()).get(node);
            int bit = code < b ? 0 : 1;
            code -= bit * b;
            range = plain || bit == 0 ? b : range - b;
            if (code >= range) return null;
            if (!plain) lean(f.get(item.model()), node, bit);
            node = 2 * node + bit;
            for (; range < 1 << 24; range *= 256) code = code * 256 + octet(asked++);
        }
        number = node - (1 << many);
        if (!plain && number >= counts.get(item.model()).size()) return null;
        return new Place(code, 0, range, 0, asked, f);
    }

    private Place nextStacked(Item item, List<Integer> its, List<List<Integer>> f) {
        int v = (int) (place.x() % 4096);
        int size = item.model() < 0 ? 4096 >> item.width() : 0;
        number = item.model() < 0 ? v / size : signOf(its, v);
        int c = item.model() < 0 ? number * size : sum(its.subList(0, number));
        long x = place.x() / 4096 * (item.model() < 0 ? size : its.get(number)) + v - c;
        int asked = place.asked();
        while (x < 1 << 23) x = x * 256 + octet(asked++);
        return new Place(0, 0, 0, x, asked, f);
    }

    private Place nextTabled(List<Integer> its, List<List<Integer>> f) {
        number = 0;
        while (!places(its, number).contains((int) place.x() - 512)) number++;
        long x = its.get(number) + places(its, number).indexOf((int) place.x() - 512);
        int asked = place.asked();
        while (x < 512) x = 2 * x + bit(asked++);
        return new Place(0, 0, 0, x, asked, f);
    }

    private Place nextPlain(int width) {
        number = 0;
        int asked = place.asked();
        for (int i = 0; i < width; i++) number = 2 * number + bit(asked++);
        return new Place(0, 0, 0, place.x(), asked, place.f());
    }
}
