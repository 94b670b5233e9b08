/**
 * A chain of filters in whole numbers. Taps that are told as fractions become
 * coefficients of few bits; each output stands beside the exact fraction.
 */
public final class FirChain {
    public static final int NONE = -1, BAD = -2, NO = -3, FULL = -4;

    /** What is answered in place of BAD and NO where -2 and -3 could be true answers. */
    private static final int BAD_NUMBER = 2000000000, NO_NUMBER = 2000000001;

    private static final int MOST_STAGES = 8, MOST_TAPS = 32, MOST_ON_TAPE = 600;
    private static final int MOST_FILLED = 16, MOST_IN_RAMP = 64;
    private static final int LEAST_SAMPLE = -32768, GREATEST_SAMPLE = 32767;
    private static final int GREATEST_SIZE = 32768;
    private static final int MOST_BELOW = 1000000, GREATEST_TAP = 1000000;
    private static final int LEAST_BITS = 4, MOST_BITS = 16;
    private static final int LEAST_WORD = 18, MOST_WORD = 50;
    private static final int MOST_SHIFT = 24;
    private static final int DOWN = 0, TOWARD_ZERO = 1, HALF_UP = 2, HALF_EVEN = 3;

    private final Stage[] stages;
    private int stageCount;
    /** The numbers of the stages in the chain, in its order. */
    private final int[] chain;
    private int chainLength;
    private final Tape tape;
    private final Row firstRow, secondRow;

    public FirChain() {
        stages = new Stage[MOST_STAGES];
        stageCount = 0;
        chain = new int[MOST_STAGES];
        chainLength = 0;
        tape = new Tape();
        firstRow = new Row();
        secondRow = new Row();
    }

    // ---- stages

    public int stage(int below, int by) {
        if (!within(below, 1, MOST_BELOW) || !isBy(by)) {
            return BAD;
        }
        if (!within(stageCount, 0, stages.length - 1)) {
            return FULL;
        }
        stages[stageCount] = new Stage(below, by);
        stageCount++;
        return stageCount - 1;
    }

    public int tap(int stage, int t) {
        Stage found = find(stage);
        if (found == null || !within(t, -GREATEST_TAP, GREATEST_TAP)) {
            return BAD;
        }
        if (!found.addTap(t)) {
            return FULL;
        }
        unplan(stage, found);
        return found.tapCount;
    }

    public int change(int stage, int k, int t) {
        Stage found = find(stage);
        if (found == null || !found.hasTap(k) || !within(t, -GREATEST_TAP, GREATEST_TAP)) {
            return BAD_NUMBER;
        }
        int before = found.tapAt(k);
        found.setTap(k, t);
        unplan(stage, found);
        return before;
    }

    public int way(int stage, int way, boolean wraps) {
        Stage found = find(stage);
        if (found == null || !within(way, DOWN, HALF_EVEN)) {
            return BAD;
        }
        int before = found.way;
        found.way = way;
        found.wraps = wraps;
        return before;
    }

    public int plan(int stage, int bits, int word) {
        Stage found = find(stage);
        if (found == null || !isPlan(bits, word)) {
            return BAD;
        }
        for (int shift = MOST_SHIFT; shift >= 0; shift--) {
            if (found.isSafe(bits, word, shift)) {
                found.setPlan(bits, word, shift);
                return shift;
            }
        }
        return NO;
    }

    public int planAt(int stage, int bits, int word, int shift) {
        Stage found = find(stage);
        if (found == null || !isPlan(bits, word) || !within(shift, 0, MOST_SHIFT)) {
            return BAD;
        }
        if (!found.isSafe(bits, word, shift)) {
            return NO;
        }
        found.setPlan(bits, word, shift);
        return shift;
    }

    public int coefficient(int stage, int k) {
        Stage found = find(stage);
        if (found == null || !found.plan.stands || !found.hasTap(k)) {
            return BAD_NUMBER;
        }
        return found.plan.factor(k);
    }

    public int about(int stage, int what) {
        Stage found = find(stage);
        if (found == null) {
            return BAD;
        }
        Plan plan = found.plan;
        switch (what) {
            case 0: return found.tapCount;
            case 1: return found.below;
            case 2: return found.by;
            case 3: return found.way;
            case 4: return found.wraps ? 1 : 0;
            case 5: return plan.stands ? plan.shift : NONE;
            case 6: return plan.stands ? plan.bits : NONE;
            case 7: return plan.stands ? plan.word : NONE;
            case 8: return placeOf(stage);
            case 9: return found.symmetry();
            default: return BAD;
        }
    }

    public long norm(int stage) {
        Stage found = find(stage);
        if (found == null || !found.plan.stands) {
            return BAD;
        }
        return found.plan.sizes;
    }

    // ---- the chain

    public int join(int stage) {
        Stage found = find(stage);
        if (found == null) {
            return BAD;
        }
        if (!found.plan.stands || placeOf(stage) != NONE
                || filledByChain() * found.filling() > MOST_FILLED
                || !within(chainLength, 0, chain.length - 1)) {
            return NO;
        }
        chain[chainLength] = stage;
        chainLength++;
        return chainLength - 1;
    }

    public int part() {
        int before = chainLength;
        chainLength = 0;
        return before;
    }

    public int put(int sample) {
        if (!isSample(sample)) {
            return BAD;
        }
        return send(sample);
    }

    public int ramp(int v, int s, int n) {
        if (!isSample(v) || !within(n, 1, MOST_IN_RAMP)) {
            return BAD;
        }
        int came = 0;
        int sample = v;
        for (int i = 0; i < n; i++) {
            came += send(sample);
            sample = (short) (sample + s);
        }
        return came;
    }

    public int out(int i) {
        if (!tape.has(i)) {
            return BAD_NUMBER;
        }
        return tape.at(i);
    }

    public int empty() {
        int before = tape.length;
        tape.length = 0;
        return before;
    }

    public int reset() {
        for (int i = 0; i < stageCount; i++) {
            Stage found = find(i);
            if (found != null) {
                found.forget();
            }
        }
        return stageCount;
    }

    // ---- beside the exact

    public int through(int stage, int sample) {
        Stage found = find(stage);
        if (found == null || !isSample(sample)) {
            return BAD_NUMBER;
        }
        if (!found.plan.stands || found.by != 1) {
            return NO_NUMBER;
        }
        return found.take(sample);
    }

    public long told(int stage, int what) {
        Stage found = find(stage);
        if (found == null || !found.latest.stands) {
            return 0;
        }
        Latest latest = found.latest;
        switch (what) {
            case 0: return latest.sum;
            case 1: return latest.rounded;
            case 2: return latest.output;
            case 3: return latest.exact;
            case 4: return found.plan.sizes * GREATEST_SIZE;
            default: return 0;
        }
    }

    public int near(int stage) {
        Stage found = find(stage);
        if (found == null) {
            return BAD;
        }
        if (!found.latest.stands) {
            return NO;
        }
        return found.latest.isWithinBound(found.below, found.plan.shift) ? 1 : 0;
    }

    public long counted(int stage, int what) {
        Stage found = find(stage);
        if (found == null) {
            return BAD;
        }
        boolean planned = found.plan.stands;
        switch (what) {
            case 0: return planned ? found.cameIn : 0;
            case 1: return planned ? found.heldCount : 0;
            case 2: return planned ? found.greatestSum : 0;
            default: return BAD;
        }
    }

    public int count(int what) {
        switch (what) {
            case 0: return stageCount;
            case 1: return chainLength;
            case 2: return tape.length;
            case 3: return tape.lost;
            default: return BAD;
        }
    }

    public long digest() {
        long h = 43;
        for (int i = 0; i < stageCount; i++) {
            for (int what = 0; what <= 9; what++) {
                h = 31 * h + about(i, what);
            }
            Stage found = find(i);
            if (found != null) {
                h = found.mixRows(h);
            }
            h = 31 * h + counted(i, 0);
            h = 31 * h + counted(i, 1);
        }
        return tape.mixSamples(h);
    }

    // ---- what the calls share

    private static boolean within(int number, int least, int greatest) {
        return number >= least && number <= greatest;
    }

    private static boolean isBy(int by) {
        return within(by, 1, 4) || within(by, -4, -2);
    }

    private static boolean isSample(int number) {
        return within(number, LEAST_SAMPLE, GREATEST_SAMPLE);
    }

    private static boolean isPlan(int bits, int word) {
        return within(bits, LEAST_BITS, MOST_BITS) && within(word, LEAST_WORD, MOST_WORD);
    }

    /** The stage with this number, or null if there is none such. */
    private Stage find(int number) {
        if (number < 0 || number >= stageCount || number >= stages.length) {
            return null;
        }
        return stages[number];
    }

    private int placeOf(int number) {
        for (int place = 0; place < chainLength && place < chain.length; place++) {
            if (chain[place] == number) {
                return place;
            }
        }
        return NONE;
    }

    /** A stage whose taps are others than its coefficients may not stay in the chain. */
    private void unplan(int number, Stage found) {
        found.dropPlan();
        int place = placeOf(number);
        if (place == NONE) {
            return;
        }
        for (int i = place; i + 1 < chainLength && i + 1 < chain.length; i++) {
            chain[i] = chain[i + 1];
        }
        chainLength--;
    }

    /** How many samples the chain makes of one, as though nothing thinned. */
    private int filledByChain() {
        int product = 1;
        for (int place = 0; place < chainLength && place < chain.length; place++) {
            Stage found = find(chain[place]);
            if (found != null) {
                product *= found.filling();
            }
        }
        return product;
    }

    /** Takes a sample along the whole chain: how many came to the tape. */
    private int send(int sample) {
        Row from = firstRow;
        Row to = secondRow;
        from.clear();
        from.add(sample);
        for (int place = 0; place < chainLength && place < chain.length; place++) {
            Stage found = find(chain[place]);
            if (found != null) {
                found.pass(from, to);
                Row spare = from;
                from = to;
                to = spare;
            }
        }
        for (int i = 0; i < from.length; i++) {
            tape.add(from.at(i));
        }
        return from.length;
    }

    /** One filter: its taps, its plan, and what has come in since it got that. */
    private static final class Stage {
        final int below, by;
        private final int[] taps;
        int tapCount;
        int way;
        boolean wraps;
        final Plan plan;
        final Latest latest;
        private final Ring ring;
        /** How many outputs more are thinned ahead of the next one that comes out. */
        private int toThin;
        long cameIn, heldCount, greatestSum;

        Stage(int below, int by) {
            this.below = below;
            this.by = by;
            taps = new int[MOST_TAPS];
            tapCount = 0;
            way = DOWN;
            wraps = false;
            plan = new Plan();
            latest = new Latest();
            ring = new Ring();
        }

        boolean hasTap(int k) {
            return k >= 0 && k < tapCount && k < taps.length;
        }

        int tapAt(int k) {
            return hasTap(k) ? taps[k] : 0;
        }

        void setTap(int k, int t) {
            if (hasTap(k)) {
                taps[k] = t;
            }
        }

        boolean addTap(int t) {
            if (tapCount < 0 || tapCount >= taps.length) {
                return false;
            }
            taps[tapCount] = t;
            tapCount++;
            return true;
        }

        /** How many samples come in for each one that is sent. */
        int filling() {
            return by < 0 ? -by : 1;
        }

        int symmetry() {
            boolean alike = true;
            boolean turned = true;
            for (int k = 0; k < tapCount; k++) {
                int here = tapAt(k);
                int there = tapAt(tapCount - 1 - k);
                alike = alike && here == there;
                turned = turned && here == -there;
            }
            return (alike ? 1 : 0) + (turned ? 2 : 0);
        }

        boolean isSafe(int bits, int word, int shift) {
            long mostCoefficient = (1L << (bits - 1)) - 1;
            long mostSum = (1L << (word - 1)) - 1;
            long sizes = 0;
            for (int k = 0; k < tapCount; k++) {
                long size = Math.abs(nearest(tapAt(k), below, shift));
                // Refused here, ahead of the sum, so that the product below stays in a long.
                if (size > mostCoefficient) {
                    return false;
                }
                sizes += size;
            }
            return tapCount > 0 && sizes * GREATEST_SIZE <= mostSum;
        }

        void setPlan(int bits, int word, int shift) {
            plan.begin(bits, word, shift);
            for (int k = 0; k < tapCount; k++) {
                plan.setFactor(k, (int) nearest(tapAt(k), below, shift));
            }
            latest.stands = false;
            forget();
        }

        void dropPlan() {
            plan.stands = false;
            latest.stands = false;
        }

        /** The latest output stays told: it is gone with the plan alone. */
        void forget() {
            ring.clear();
            toThin = 0;
            cameIn = 0;
            heldCount = 0;
            greatestSum = 0;
        }

        /** Takes the samples of one row; what comes out becomes the other. */
        void pass(Row from, Row to) {
            to.clear();
            int each = filling();
            int length = from.length;
            for (int i = 0; i < length; i++) {
                for (int j = 0; j < each; j++) {
                    int output = take(j == 0 ? from.at(i) : 0);
                    if (comesOut()) {
                        to.add(output);
                    }
                }
            }
        }

        private boolean comesOut() {
            if (toThin > 0) {
                toThin--;
                return false;
            }
            toThin = by > 1 ? by - 1 : 0;
            return true;
        }

        /** One sample comes in: the output that is due then, thinned or not. */
        int take(int sample) {
            ring.push(sample);
            long sum = 0;
            long exact = 0;
            long sizes = 0;
            for (int k = 0; k < tapCount; k++) {
                long word = ring.back(k);
                sum += plan.factor(k) * word;
                exact += tapAt(k) * word;
                sizes += Math.abs(word);
            }
            long rounded = roundedSum(sum, plan.shift, way);
            int output = heldNumber(rounded, wraps);
            latest.keepSums(sum, exact, sizes);
            latest.keepOutput(rounded, output, way);
            cameIn++;
            if (output != rounded) {
                heldCount++;
            }
            greatestSum = Math.max(greatestSum, Math.abs(sum));
            return output;
        }

        long mixRows(long h) {
            for (int k = 0; k < tapCount; k++) {
                h = 31 * h + tapAt(k);
            }
            if (!plan.stands) {
                return h;
            }
            for (int k = 0; k < tapCount; k++) {
                h = 31 * h + plan.factor(k);
            }
            for (int k = 0; k < tapCount; k++) {
                h = 31 * h + ring.back(k);
            }
            return h;
        }

        /** The whole number nearest to t by below times 2^shift, of two the even one. */
        private static long nearest(int t, int below, int shift) {
            if (below < 1) {
                return 0;
            }
            long above = (long) t * (1L << shift);
            long floor = Math.floorDiv(above, (long) below);
            long twiceRest = 2 * (above - floor * below);
            if (twiceRest > below || (twiceRest == below && isOdd(floor))) {
                return floor + 1;
            }
            return floor;
        }

        private static long roundedSum(long sum, int shift, int way) {
            long one = 1L << shift;
            long floor = sum >> shift;
            long rest = sum - floor * one;
            boolean up;
            switch (way) {
                case TOWARD_ZERO:
                    up = sum < 0 && rest > 0;
                    break;
                case HALF_UP:
                    up = 2 * rest >= one;
                    break;
                case HALF_EVEN:
                    up = 2 * rest > one || (2 * rest == one && isOdd(floor));
                    break;
                default:
                    up = false;
                    break;
            }
            return up ? floor + 1 : floor;
        }

        private static int heldNumber(long rounded, boolean wraps) {
            if (wraps) {
                return (short) rounded;
            }
            return (int) Math.max(LEAST_SAMPLE, Math.min(GREATEST_SAMPLE, rounded));
        }

        private static boolean isOdd(long number) {
            return (number & 1) != 0;
        }
    }

    /** The coefficients of a stage, and how they were found; void unless it stands. */
    private static final class Plan {
        boolean stands;
        int bits, word, shift;
        /** The norm: the sum of the sizes of the coefficients. */
        long sizes;
        private final int[] factors;

        Plan() {
            stands = false;
            factors = new int[MOST_TAPS];
        }

        void begin(int bits, int word, int shift) {
            this.bits = bits;
            this.word = word;
            this.shift = shift;
            sizes = 0;
            stands = true;
        }

        /** To be called once for each coefficient after begin(), which the norm counts on. */
        void setFactor(int k, int factor) {
            if (k >= 0 && k < factors.length) {
                factors[k] = factor;
                sizes += Math.abs(factor);
            }
        }

        int factor(int k) {
            return k >= 0 && k < factors.length ? factors[k] : 0;
        }
    }

    /** The latest output of a stage, as it was made: its way may be another one since. */
    private static final class Latest {
        boolean stands;
        long sum, exact, rounded;
        int output;
        private long sampleSizes;
        private int roundedBy;

        Latest() {
            stands = false;
        }

        void keepSums(long sum, long exact, long sampleSizes) {
            this.sum = sum;
            this.exact = exact;
            this.sampleSizes = sampleSizes;
        }

        void keepOutput(long rounded, int output, int roundedBy) {
            this.rounded = rounded;
            this.output = output;
            this.roundedBy = roundedBy;
            stands = true;
        }

        /** Both sides are taken times below, so that no fraction is cut. */
        boolean isWithinBound(int below, int shift) {
            long distance = Math.abs(rounded * below - exact);
            long one = 1L << shift;
            long forRounding = roundedBy == DOWN || roundedBy == TOWARD_ZERO ? 2 * one : one;
            return distance * (2 * one) <= (sampleSizes + forRounding) * below;
        }
    }

    /** The latest 32 samples in short words; those that never came are 0. */
    private static final class Ring {
        /** The ring is as long as taps may be many, a power of 2, so a mask turns it. */
        private static final int MASK = MOST_TAPS - 1;
        private final short[] words;
        private int head;

        Ring() {
            words = new short[MOST_TAPS];
            head = 0;
        }

        void push(int sample) {
            head = (head - 1) & MASK;
            if (head < words.length) {
                words[head] = (short) sample;
            }
        }

        /** The sample that came in k samples ahead of the latest one. */
        int back(int k) {
            int at = (head + k) & MASK;
            return at < words.length ? words[at] : 0;
        }

        void clear() {
            for (int i = 0; i < words.length; i++) {
                words[i] = 0;
            }
            head = 0;
        }
    }

    /** What one sample has become on its way: join() sees to it that 16 is room enough. */
    private static final class Row {
        private final int[] samples;
        int length;

        Row() {
            samples = new int[MOST_FILLED];
            length = 0;
        }

        void clear() {
            length = 0;
        }

        void add(int sample) {
            if (length >= 0 && length < samples.length) {
                samples[length] = sample;
                length++;
            }
        }

        int at(int i) {
            return i >= 0 && i < length && i < samples.length ? samples[i] : 0;
        }
    }

    /** What came out of the last stage, as far as there is room. */
    private static final class Tape {
        private final short[] samples;
        int length, lost;

        Tape() {
            samples = new short[MOST_ON_TAPE];
            length = 0;
            lost = 0;
        }

        void add(int sample) {
            if (length < 0 || length >= samples.length) {
                lost++;
                return;
            }
            samples[length] = (short) sample;
            length++;
        }

        boolean has(int i) {
            return i >= 0 && i < length && i < samples.length;
        }

        int at(int i) {
            return has(i) ? samples[i] : 0;
        }

        long mixSamples(long h) {
            for (int i = 0; i < length; i++) {
                h = 31 * h + at(i);
            }
            return h;
        }
    }
}
