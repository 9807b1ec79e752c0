import java.util.Arrays;

/**
 * Five coders that put signs into as few bits as their chances allow, and read them again.
 * The capital words in the comments are the document's terms.
 */
public final class RangeCoders {
    public static final int NONE = -1;

    private static final int OUTSIDE = -2;
    private static final int NOT_NOW = -3;
    private static final int NO_ROOM = -4;
    private static final int BAD = -5;

    private static final int MOST_MODELS = 8;
    private static final int FEWEST_SIGNS = 2;
    private static final int MOST_SIGNS = 64;
    private static final int MOST_COUNT = 4095;
    private static final int MOST_ITEMS = 600;
    private static final int MOST_IN = 6000;
    private static final int LAST_FORM = 4;
    private static final int MOST_SHIFT = 10;
    private static final int LAST_TOLD = 7;
    private static final int LAST_STATE = 5;
    private static final int LAST_STATE_OF_MESSAGE = 1;

    /** RANGE as it begins, and the mask that keeps a number to 32 bits. */
    private static final long FULL = 0xFFFFFFFFL;

    /** No number of 32 bits is moved by whole bytes more often than this before it is wide again. */
    private static final int MOST_BYTES = 8;

    private final Coder coder;
    private final Model[] models = new Model[MOST_MODELS];
    private int modelCount;
    private int items;
    private boolean ended;
    private boolean reading;
    private boolean bad;
    private int itemsRead;

    public RangeCoders(int form, int shift) {
        coder = coderOf(nearest(form, 0, LAST_FORM), nearest(shift, 1, MOST_SHIFT));
    }

    public int model(int n) {
        if (n < FEWEST_SIGNS || n > MOST_SIGNS) {
            return OUTSIDE;
        }
        if (modelCount >= MOST_MODELS) {
            return NO_ROOM;
        }
        Model made = new Model(n, coder.newOdds(n), coder.newOdds(n));
        coder.prepare(made.sent, made.counts);
        coder.prepare(made.heard, made.counts);
        models[modelCount] = made;
        modelCount++;
        return modelCount - 1;
    }

    public int count(int model, int sign, int v) {
        Model asked = modelAt(model);
        if (asked == null || !asked.hasSign(sign)) {
            return NONE;
        }
        if (v < 0 || v > MOST_COUNT) {
            return OUTSIDE;
        }
        if ((items > 0 && !ended) || reading) {
            return NOT_NOW;
        }
        int before = asked.counts[sign];
        asked.counts[sign] = v;
        if (!ended) {
            coder.prepare(asked.sent, asked.counts);
        }
        return before;
    }

    public int put(int model, int sign) {
        Model asked = modelAt(model);
        if (asked == null || !asked.hasSign(sign)) {
            return NONE;
        }
        if (ended || !coder.canWrite(asked.sent, sign)) {
            return NOT_NOW;
        }
        if (items >= MOST_ITEMS) {
            return NO_ROOM;
        }
        coder.writeSign(asked.sent, sign);
        items++;
        return items;
    }

    public int bits(int value, int bits) {
        if (!coder.hasWidth(bits) || value < 0 || value >= 1 << bits) {
            return OUTSIDE;
        }
        if (ended) {
            return NOT_NOW;
        }
        if (items >= MOST_ITEMS) {
            return NO_ROOM;
        }
        coder.writeValue(value, bits);
        items++;
        return items;
    }

    public int end() {
        if (ended) {
            return NOT_NOW;
        }
        coder.closeMessage();
        ended = true;
        return coder.out.size;
    }

    public int begin() {
        int before = items;
        items = 0;
        ended = false;
        coder.openMessage();
        for (Model each : models) {
            if (each != null) {
                coder.prepare(each.sent, each.counts);
            }
        }
        return before;
    }

    public int out(int i) {
        return coder.out.at(i);
    }

    public int octets(int four) {
        if (coder.in.size + 4 > MOST_IN) {
            return NO_ROOM;
        }
        for (int shift = 24; shift >= 0; shift -= 8) {
            coder.in.add((four >>> shift) & 255);
        }
        return coder.in.size;
    }

    public int take(int n) {
        if (n < 0 || n - 2 > coder.out.size) {
            return OUTSIDE;
        }
        int length = n == 1 ? coder.out.size : Math.max(0, n - 2);
        coder.in.clear();
        for (int i = 0; i < length; i++) {
            coder.in.add(coder.out.at(i));
        }
        reading = false;
        bad = false;
        itemsRead = 0;
        return coder.in.size;
    }

    public int spoil(int i, int turned) {
        if (!coder.in.has(i)) {
            return NONE;
        }
        if (turned < 0 || turned > 255) {
            return OUTSIDE;
        }
        coder.in.set(i, coder.in.at(i) ^ turned);
        return coder.in.at(i);
    }

    public int read() {
        for (Model each : models) {
            if (each != null) {
                coder.prepare(each.heard, each.counts);
            }
        }
        reading = true;
        itemsRead = 0;
        bad = !coder.openReading();
        return coder.in.size;
    }

    public int get(int model) {
        Model asked = modelAt(model);
        if (asked == null) {
            return NONE;
        }
        if (!reading) {
            return NOT_NOW;
        }
        return bad ? BAD : itemOrBad(coder.nextSign(asked.heard));
    }

    public int getBits(int bits) {
        if (!coder.hasWidth(bits)) {
            return OUTSIDE;
        }
        if (!reading) {
            return NOT_NOW;
        }
        return bad ? BAD : itemOrBad(coder.nextValue(bits));
    }

    public int told(int what) {
        if (what < 0 || what > LAST_TOLD) {
            return OUTSIDE;
        }
        switch (what) {
            case 0:
                return items;
            case 1:
                return ended ? 1 : 0;
            case 2:
                return coder.out.size;
            case 3:
                return coder.in.size;
            case 4:
                return itemsRead;
            case 5:
                return reading ? coder.bytesAsked() : 0;
            case 6:
                return bad ? 1 : 0;
            default:
                return reading ? 1 : 0;
        }
    }

    public long state(int what) {
        if (what < 0 || what > LAST_STATE) {
            return OUTSIDE;
        }
        if (what > LAST_STATE_OF_MESSAGE && !reading) {
            return 0;
        }
        return coder.register(what);
    }

    public int chance(int model, int sign) {
        Model asked = modelAt(model);
        if (asked == null || !asked.sent.hasCell(sign)) {
            return NONE;
        }
        return asked.sent.at(sign);
    }

    private static int nearest(int number, int least, int most) {
        return Math.max(least, Math.min(most, number));
    }

    private static Coder coderOf(int form, int shift) {
        switch (form) {
            case 0:
                return new Carries();
            case 1:
                return new NoCarries();
            case 2:
                return new Bits(shift);
            case 3:
                return new Stack();
            default:
                return new Table();
        }
    }

    private Model modelAt(int number) {
        return number >= 0 && number < modelCount ? models[number] : null;
    }

    private int itemOrBad(int item) {
        if (item == NONE) {
            bad = true;
            return BAD;
        }
        itemsRead++;
        return item;
    }

    /** Numbers one behind another; it grows, as most objects need few. */
    private static final class Row {
        private static final int FIRST_CELLS = 64;

        /** More than 600 items of any form can fill. */
        private static final int MOST_CELLS = 8192;

        int size;
        private int[] cells = new int[FIRST_CELLS];

        boolean has(int i) {
            return i >= 0 && i < size && i < cells.length;
        }

        int at(int i) {
            return has(i) ? cells[i] : NONE;
        }

        void set(int i, int number) {
            if (has(i)) {
                cells[i] = number;
            }
        }

        void add(int number) {
            if (size >= cells.length && cells.length < MOST_CELLS) {
                cells = Arrays.copyOf(cells, cells.length * 2);
            }
            if (size >= 0 && size < cells.length) {
                cells[size] = number;
                size++;
            }
        }

        void clear() {
            size = 0;
        }

        void becomeReverseOf(Row other) {
            clear();
            for (int i = other.size - 1; i >= 0; i--) {
                add(other.at(i));
            }
        }
    }

    /** A model's COUNTS, and its F or CHANCES twice: a message and a reading learn apart. */
    private static final class Model {
        final int[] counts;
        final Odds sent;
        final Odds heard;

        Model(int signs, Odds sent, Odds heard) {
            counts = new int[signs >= 0 ? signs : 0];
            Arrays.fill(counts, 1);
            this.sent = sent;
            this.heard = heard;
        }

        boolean hasSign(int sign) {
            return sign >= 0 && sign < counts.length;
        }
    }

    /** The F of a model's signs or, of form 2, the CHANCES of its NODES. */
    private static final class Odds {
        private static final int MOST_SUM = 8192;
        private static final int GROWTH = 32;

        /** So many halvings bring any sum of COUNTS below MOST_SUM. */
        private static final int MOST_HALVINGS = 32;

        private static final int STEP_OF_PLACES = 323;

        final int signs;
        int sum;
        private final int firstCell;
        private final int[] cells;
        private final int[] placeSigns;

        Odds(int signs, int firstCell, int cells, int places) {
            this.signs = signs;
            this.firstCell = firstCell;
            this.cells = new int[cells >= 0 ? cells : 0];
            this.placeSigns = new int[places >= 0 ? places : 0];
        }

        boolean hasCell(int cell) {
            return cell >= firstCell && cell >= 0 && cell < cells.length;
        }

        int at(int cell) {
            return hasCell(cell) ? cells[cell] : 0;
        }

        void grow(int cell, int by) {
            if (hasCell(cell)) {
                cells[cell] += by;
                sum += by;
            }
        }

        void fill(int number) {
            Arrays.fill(cells, number);
            sum = number * cells.length;
        }

        void fromCounts(int[] counts) {
            copyCounts(counts);
            for (int round = 0; round < MOST_HALVINGS && sum > MOST_SUM; round++) {
                halve();
            }
        }

        void learn(int sign) {
            grow(sign, GROWTH);
            if (sum > MOST_SUM) {
                halve();
            }
        }

        /** The sum of the F of lesser signs. */
        int below(int sign) {
            int total = 0;
            for (int i = 0; i < sign && i < cells.length; i++) {
                total += cells[i];
            }
            return total;
        }

        int signAt(int share) {
            int total = 0;
            for (int i = 0; i < cells.length; i++) {
                total += cells[i];
                if (share < total) {
                    return i;
                }
            }
            return NONE;
        }

        void scaleTo(int whole, int[] counts) {
            copyCounts(counts);
            int total = sum;
            if (total <= 0) {
                return;
            }
            sum = 0;
            for (int i = 0; i < cells.length; i++) {
                cells[i] = cells[i] == 0 ? 0 : Math.max(1, cells[i] * whole / total);
                sum += cells[i];
            }
            for (int excess = sum - whole; excess > 0; excess--) {
                grow(greatest(), -1);
            }
            grow(greatest(), whole - sum);
        }

        void spread() {
            int place = 0;
            for (int sign = 0; sign < cells.length; sign++) {
                for (int i = 0; i < cells[sign]; i++) {
                    if (place >= 0 && place < placeSigns.length) {
                        placeSigns[place] = sign;
                        place = (place + STEP_OF_PLACES) % placeSigns.length;
                    }
                }
            }
        }

        int signOfPlace(int place) {
            return place >= 0 && place < placeSigns.length ? placeSigns[place] : NONE;
        }

        /** Which PLACE of its sign this one is, in rising order. */
        int numberOfPlace(int place) {
            int sign = signOfPlace(place);
            int number = 0;
            for (int i = 0; i < place && i < placeSigns.length; i++) {
                if (placeSigns[i] == sign) {
                    number++;
                }
            }
            return number;
        }

        int placeOf(int sign, int number) {
            int left = number;
            for (int i = 0; i < placeSigns.length; i++) {
                if (placeSigns[i] == sign) {
                    if (left == 0) {
                        return i;
                    }
                    left--;
                }
            }
            return 0;
        }

        private void copyCounts(int[] counts) {
            sum = 0;
            for (int i = 0; i < cells.length && i < counts.length; i++) {
                cells[i] = counts[i];
                sum += counts[i];
            }
        }

        private void halve() {
            sum = 0;
            for (int i = 0; i < cells.length; i++) {
                cells[i] = (cells[i] + 1) / 2;
                sum += cells[i];
            }
        }

        private int greatest() {
            int best = 0;
            for (int i = 1; i < cells.length; i++) {
                if (cells[i] > cells[best]) {
                    best = i;
                }
            }
            return best;
        }
    }

    /** What the five forms have in common. A next item that is BAD is NONE, and changes nothing of the reading. */
    private abstract static class Coder {
        private static final int WIDEST = 12;

        final Row in = new Row();
        Row out = new Row();
        Row written = new Row();
        int asked;

        abstract void prepare(Odds odds, int[] counts);

        abstract void openMessage();

        abstract void writeSign(Odds odds, int sign);

        abstract void writeValue(int value, int width);

        abstract void closeMessage();

        /** Whether the reading is not BAD at once. */
        abstract boolean openReading();

        abstract int nextSign(Odds odds);

        abstract int nextValue(int width);

        abstract long register(int what);

        Odds newOdds(int signs) {
            return new Odds(signs, 0, signs, 0);
        }

        boolean canWrite(Odds odds, int sign) {
            return odds.at(sign) > 0;
        }

        boolean hasWidth(int width) {
            return width >= 1 && width <= WIDEST;
        }

        int bytesAsked() {
            return asked;
        }

        int nextByte() {
            int next = in.has(asked) ? in.at(asked) : 0;
            asked++;
            return next;
        }

        long firstFourBytes() {
            asked = 0;
            long four = 0;
            for (int i = 0; i < 4; i++) {
                four = (four << 8) | nextByte();
            }
            return four;
        }
    }

    /** Forms 0 and 1: a part f of t, behind c, of a RANGE. */
    private abstract static class Ranged extends Coder {
        long low;
        long range = FULL;
        long code;
        long readLow;
        long readRange;

        abstract void writePart(int f, int c, int t);

        abstract void readPart(int f, int c, int t);

        /** Writes what LOW still holds as the message is ENDED. */
        abstract void flush();

        void prepare(Odds odds, int[] counts) {
            odds.fromCounts(counts);
        }

        void openMessage() {
            written.clear();
            low = 0;
            range = FULL;
        }

        void writeSign(Odds odds, int sign) {
            writePart(odds.at(sign), odds.below(sign), odds.sum);
            odds.learn(sign);
        }

        void writeValue(int value, int width) {
            writePart(1, value, 1 << width);
        }

        void closeMessage() {
            flush();
            Row before = out;
            out = written;
            written = before;
        }

        boolean openReading() {
            code = firstFourBytes();
            readLow = 0;
            readRange = FULL;
            return true;
        }

        int nextSign(Odds odds) {
            int share = nextShare(odds.sum);
            int sign = share == NONE ? NONE : odds.signAt(share);
            if (sign != NONE) {
                readPart(odds.at(sign), odds.below(sign), odds.sum);
                odds.learn(sign);
            }
            return sign;
        }

        int nextValue(int width) {
            int value = nextShare(1 << width);
            if (value != NONE) {
                readPart(1, value, 1 << width);
            }
            return value;
        }

        long register(int what) {
            switch (what) {
                case 0:
                    return low;
                case 1:
                    return range;
                case 2:
                    return code;
                case 3:
                    return readLow;
                case 4:
                    return readRange;
                default:
                    return 0;
            }
        }

        private int nextShare(int t) {
            long r = t > 0 ? readRange / t : 0;
            if (r <= 0) {
                return NONE;
            }
            long share = ((code - readLow) & FULL) / r;
            return share < t ? (int) share : NONE;
        }
    }

    /** Form 0: a carry goes back into bytes that wait for it. */
    private static class Carries extends Ranged {
        private static final long NARROW = 1L << 24;
        private static final long MAY_CARRY = 0xFF000000L;
        private static final int LAST_SHIFTS = 5;

        private int cache = NONE;
        private int pending;

        void openMessage() {
            super.openMessage();
            cache = NONE;
            pending = 0;
        }

        void writePart(int f, int c, int t) {
            long r = t > 0 ? range / t : 0;
            low += r * c;
            range = r * f;
            widen();
        }

        void readPart(int f, int c, int t) {
            long r = t > 0 ? readRange / t : 0;
            code -= r * c;
            readRange = r * f;
            widenReading();
        }

        void flush() {
            for (int i = 0; i < LAST_SHIFTS; i++) {
                shiftLow();
            }
        }

        void widen() {
            for (int i = 0; i < MOST_BYTES && range < NARROW; i++) {
                range = (range << 8) & FULL;
                shiftLow();
            }
        }

        void widenReading() {
            for (int i = 0; i < MOST_BYTES && readRange < NARROW; i++) {
                readRange = (readRange << 8) & FULL;
                code = ((code << 8) | nextByte()) & FULL;
            }
        }

        private void shiftLow() {
            if (low < MAY_CARRY || low > FULL) {
                writeWaiting((int) (low >>> 32));
                cache = (int) (low >>> 24) & 255;
            } else {
                pending++;
            }
            low = (low << 8) & FULL;
        }

        private void writeWaiting(int carry) {
            if (cache != NONE) {
                written.add((cache + carry) & 255);
            }
            for (int i = 0; i < pending; i++) {
                written.add((255 + carry) & 255);
            }
            pending = 0;
        }
    }

    /** Form 1: a RANGE that a carry could cross is cut off ahead of it. */
    private static final class NoCarries extends Ranged {
        private static final long NARROW = 1L << 16;
        private static final int LAST_BYTES = 4;

        void writePart(int f, int c, int t) {
            long r = t > 0 ? range / t : 0;
            low = (low + r * c) & FULL;
            range = (r * f) & FULL;
            for (int i = 0; i < MOST_BYTES && mustMove(low, range); i++) {
                range = moved(low, range);
                writeTop();
            }
        }

        void readPart(int f, int c, int t) {
            long r = t > 0 ? readRange / t : 0;
            readLow = (readLow + r * c) & FULL;
            readRange = (r * f) & FULL;
            for (int i = 0; i < MOST_BYTES && mustMove(readLow, readRange); i++) {
                readRange = moved(readLow, readRange);
                readLow = (readLow << 8) & FULL;
                code = ((code << 8) | nextByte()) & FULL;
            }
        }

        void flush() {
            for (int i = 0; i < LAST_BYTES; i++) {
                writeTop();
            }
        }

        private void writeTop() {
            written.add((int) (low >>> 24));
            low = (low << 8) & FULL;
        }

        private static boolean sameTop(long low, long range) {
            return low >>> 24 == ((low + range) & FULL) >>> 24;
        }

        private static boolean mustMove(long low, long range) {
            return sameTop(low, range) || range < NARROW;
        }

        private static long moved(long low, long range) {
            long kept = sameTop(low, range) ? range : -low & (NARROW - 1);
            return (kept << 8) & FULL;
        }
    }

    /** Form 2: signs as bits, each with a CHANCE that learns. */
    private static final class Bits extends Carries {
        private static final int BITS_OF_CHANCE = 11;
        private static final int SURE = 1 << BITS_OF_CHANCE;
        private static final int MOST_LEVELS = 6;

        private final int shift;
        private long keptCode;
        private long keptRange;
        private int keptAsked;

        Bits(int shift) {
            this.shift = shift;
        }

        Odds newOdds(int signs) {
            return new Odds(signs, 1, 1 << levelsOf(signs), 0);
        }

        void prepare(Odds odds, int[] counts) {
            odds.fill(SURE / 2);
        }

        boolean canWrite(Odds odds, int sign) {
            return true;
        }

        void writeSign(Odds odds, int sign) {
            int node = 1;
            for (int level = levelsOf(odds.signs) - 1; level >= 0; level--) {
                int bit = (sign >>> level) & 1;
                writeBit(odds, node, bit);
                node = 2 * node + bit;
            }
        }

        void writeValue(int value, int width) {
            for (int place = width - 1; place >= 0; place--) {
                range >>>= 1;
                if (((value >>> place) & 1) == 1) {
                    low += range;
                }
                widen();
            }
        }

        int nextSign(Odds odds) {
            if (code >= readRange) {
                return NONE;
            }
            keepReading();
            int levels = levelsOf(odds.signs);
            int node = 1;
            for (int level = 0; level < levels; level++) {
                node = 2 * node + nextBit(odds, node);
            }
            int sign = node - (1 << levels);
            return sign < odds.signs ? sign : undone();
        }

        int nextValue(int width) {
            if (code >= readRange) {
                return NONE;
            }
            keepReading();
            int value = 0;
            for (int i = 0; i < width; i++) {
                readRange >>>= 1;
                int bit = code < readRange ? 0 : 1;
                code -= bit * readRange;
                if (code >= readRange) {
                    return undone();
                }
                value = 2 * value + bit;
                widenReading();
            }
            return value;
        }

        private static int levelsOf(int signs) {
            int levels = 1;
            while (levels < MOST_LEVELS && 1 << levels < signs) {
                levels++;
            }
            return levels;
        }

        private void writeBit(Odds odds, int node, int bit) {
            long bound = (range >>> BITS_OF_CHANCE) * odds.at(node);
            if (bit == 0) {
                range = bound;
            } else {
                low += bound;
                range -= bound;
            }
            adapt(odds, node, bit);
            widen();
        }

        private int nextBit(Odds odds, int node) {
            long bound = (readRange >>> BITS_OF_CHANCE) * odds.at(node);
            int bit = code < bound ? 0 : 1;
            if (bit == 0) {
                readRange = bound;
            } else {
                code -= bound;
                readRange -= bound;
            }
            adapt(odds, node, bit);
            widenReading();
            return bit;
        }

        private void adapt(Odds odds, int node, int bit) {
            int chance = odds.at(node);
            odds.grow(node, bit == 0 ? (SURE - chance) >> shift : -(chance >> shift));
        }

        private void keepReading() {
            keptCode = code;
            keptRange = readRange;
            keptAsked = asked;
        }

        /** An item may turn out BAD behind its first bits, and then nothing may have changed. */
        private int undone() {
            code = keptCode;
            readRange = keptRange;
            asked = keptAsked;
            return NONE;
        }
    }

    /** Forms 3 and 4: items are kept, as the last one is coded first. */
    private abstract static class Stacked extends Coder {
        long x;
        long readX;
        private final Odds[] odds = new Odds[MOST_ITEMS];
        private final int[] numbers = new int[MOST_ITEMS];
        private final int[] widths = new int[MOST_ITEMS];
        private int kept;

        abstract void openStack();

        abstract void stackSign(Odds odds, int sign);

        abstract void stackValue(int value, int width);

        abstract void closeStack();

        void openMessage() {
            kept = 0;
        }

        void writeSign(Odds odds, int sign) {
            keep(odds, sign, 0);
        }

        void writeValue(int value, int width) {
            keep(null, value, width);
        }

        void closeMessage() {
            written.clear();
            openStack();
            for (int i = Math.min(kept, MOST_ITEMS) - 1; i >= 0; i--) {
                if (odds[i] == null) {
                    stackValue(numbers[i], widths[i]);
                } else {
                    stackSign(odds[i], numbers[i]);
                }
            }
            closeStack();
        }

        long register(int what) {
            return what == LAST_STATE ? readX : 0;
        }

        private void keep(Odds itsOdds, int number, int width) {
            if (kept >= 0 && kept < MOST_ITEMS) {
                odds[kept] = itsOdds;
                numbers[kept] = number;
                widths[kept] = width;
                kept++;
            }
        }
    }

    /** Form 3: all items in one number X, whose lowest bytes go out as it grows. */
    private static final class Stack extends Stacked {
        private static final int BITS_OF_WHOLE = 12;
        private static final int WHOLE = 1 << BITS_OF_WHOLE;
        private static final int LEAST_BITS = 23;
        private static final long LEAST = 1L << LEAST_BITS;
        private static final int BITS_ABOVE_F = 19;

        void prepare(Odds odds, int[] counts) {
            odds.scaleTo(WHOLE, counts);
        }

        void openStack() {
            x = LEAST;
        }

        void stackSign(Odds odds, int sign) {
            stackPart(odds.at(sign), odds.below(sign));
        }

        void stackValue(int value, int width) {
            int f = WHOLE >> width;
            stackPart(f, f * value);
        }

        void closeStack() {
            for (int i = 0; i < 4; i++) {
                writeLowest();
            }
            out.becomeReverseOf(written);
        }

        boolean openReading() {
            readX = firstFourBytes();
            return readX >= LEAST;
        }

        int nextSign(Odds odds) {
            int share = (int) (readX & (WHOLE - 1));
            int sign = odds.signAt(share);
            if (sign != NONE) {
                unstackPart(odds.at(sign), share - odds.below(sign));
            }
            return sign;
        }

        int nextValue(int width) {
            int share = (int) (readX & (WHOLE - 1));
            int f = WHOLE >> width;
            if (f <= 0) {
                return NONE;
            }
            unstackPart(f, share % f);
            return share / f;
        }

        private void stackPart(int f, int c) {
            if (f <= 0) {
                return;
            }
            for (int i = 0; i < MOST_BYTES && x >= (long) f << BITS_ABOVE_F; i++) {
                writeLowest();
            }
            x = WHOLE * (x / f) + x % f + c;
        }

        private void writeLowest() {
            written.add((int) (x & 255));
            x >>>= 8;
        }

        private void unstackPart(int f, int rest) {
            readX = f * (readX >>> BITS_OF_WHOLE) + rest;
            for (int i = 0; i < MOST_BYTES && readX < LEAST; i++) {
                readX = (readX << 8) | nextByte();
            }
        }
    }

    /** Form 4: X is a state, and a table of PLACES tells the next one. WRITTEN and asked count bits here. */
    private static final class Table extends Stacked {
        private static final int BITS_OF_PLACES = 9;
        private static final int PLACES = 1 << BITS_OF_PLACES;

        Odds newOdds(int signs) {
            return new Odds(signs, 0, signs, PLACES);
        }

        void prepare(Odds odds, int[] counts) {
            odds.scaleTo(PLACES, counts);
            odds.spread();
        }

        boolean hasWidth(int width) {
            return width >= 1 && width <= BITS_OF_PLACES;
        }

        int bytesAsked() {
            return (asked + 7) / 8;
        }

        void openStack() {
            x = PLACES;
        }

        void stackSign(Odds odds, int sign) {
            int f = odds.at(sign);
            for (int i = 0; i <= BITS_OF_PLACES && x >= 2L * f; i++) {
                written.add((int) (x & 1));
                x >>>= 1;
            }
            x = PLACES + odds.placeOf(sign, (int) x - f);
        }

        void stackValue(int value, int width) {
            for (int place = 0; place < width; place++) {
                written.add((value >>> place) & 1);
            }
        }

        void closeStack() {
            stackValue((int) x - PLACES, BITS_OF_PLACES);
            out.clear();
            for (int i = 0; i < written.size; i += 8) {
                out.add(byteOfWritten(i));
            }
        }

        boolean openReading() {
            asked = 0;
            readX = PLACES + nextValue(BITS_OF_PLACES);
            return true;
        }

        int nextSign(Odds odds) {
            if (odds.sum <= 0) {
                return NONE;
            }
            int place = (int) readX - PLACES;
            int sign = odds.signOfPlace(place);
            readX = odds.at(sign) + odds.numberOfPlace(place);
            for (int i = 0; i <= BITS_OF_PLACES && readX < PLACES; i++) {
                readX = 2 * readX + nextInBit();
            }
            return sign;
        }

        int nextValue(int width) {
            int value = 0;
            for (int i = 0; i < width; i++) {
                value = 2 * value + nextInBit();
            }
            return value;
        }

        /** OUT turns what was WRITTEN round: its bit 0 is the bit that was WRITTEN last. */
        private int byteOfWritten(int from) {
            int octet = 0;
            for (int i = from; i < from + 8; i++) {
                int last = written.size - 1 - i;
                octet = 2 * octet + (written.has(last) ? written.at(last) : 0);
            }
            return octet;
        }

        private int nextInBit() {
            int octet = asked / 8;
            int bit = in.has(octet) ? (in.at(octet) >>> (7 - asked % 8)) & 1 : 0;
            asked++;
            return bit;
        }
    }
}
