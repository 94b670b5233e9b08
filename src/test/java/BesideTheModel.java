import java.math.BigInteger;
import java.util.ArrayList;
import java.util.List;

/**
 * Long mixed runs, each answer beside that of a slow model which keeps every sample
 * and reckons in BigInteger. The runs are drawn by a fixed rule: they are always the same.
 */
public final class BesideTheModel {
    private static final int RUNS = 10000;
    /** What later calls of one object answer is free. */
    private static final int MOST_CALLS = 512;
    private static final int CALLS_OF_ONE_LOOK = 42;
    private static int wrong = 0;

    public static void main(String[] args) {
        for (int run = 0; run < RUNS && wrong < 20; run++) {
            new Run(run).go();
        }
        System.out.println(wrong == 0 ? "all answers are those of the model" : wrong + " answers differ");
        if (wrong != 0) {
            System.exit(1);
        }
    }

    private static final class Filter {
        final int below;
        final int by;
        final List<Integer> taps = new ArrayList<>();
        int way = 0;
        boolean wraps = false;
        List<BigInteger> coefficients = null;
        int bits;
        int word;
        int shift;
        List<Integer> came = new ArrayList<>();
        long held = 0;
        BigInteger greatest = BigInteger.ZERO;
        BigInteger[] told = null;
        int toldNear = 0;

        Filter(int below, int by) {
            this.below = below;
            this.by = by;
        }

        void forget() {
            came = new ArrayList<>();
            held = 0;
            greatest = BigInteger.ZERO;
        }

        List<BigInteger> coefficientsAt(int atShift) {
            List<BigInteger> row = new ArrayList<>();
            for (int t : taps) {
                row.add(round(BigInteger.valueOf(t).shiftLeft(atShift), BigInteger.valueOf(below), 3));
            }
            return row;
        }

        boolean safe(int atBits, int atWord, int atShift) {
            BigInteger most = BigInteger.ONE.shiftLeft(atBits - 1).subtract(BigInteger.ONE);
            BigInteger mostSum = BigInteger.ONE.shiftLeft(atWord - 1).subtract(BigInteger.ONE);
            List<BigInteger> row = coefficientsAt(atShift);
            for (BigInteger c : row) {
                if (c.abs().compareTo(most) > 0) {
                    return false;
                }
            }
            return !taps.isEmpty() && norm(row).shiftLeft(15).compareTo(mostSum) <= 0;
        }

        void gets(int toBits, int toWord, int toShift) {
            bits = toBits;
            word = toWord;
            shift = toShift;
            coefficients = coefficientsAt(toShift);
            told = null;
            forget();
        }

        int takes(int sample) {
            came.add(sample);
            BigInteger sum = BigInteger.ZERO;
            BigInteger exact = BigInteger.ZERO;
            BigInteger sizes = BigInteger.ZERO;
            for (int k = 0; k < taps.size(); k++) {
                BigInteger x = BigInteger.valueOf(back(k));
                sum = sum.add(coefficients.get(k).multiply(x));
                exact = exact.add(BigInteger.valueOf(taps.get(k)).multiply(x));
                sizes = sizes.add(x.abs());
            }
            BigInteger rounded = round(sum, BigInteger.ONE.shiftLeft(shift), way);
            int output;
            if (wraps) {
                output = rounded.shortValue();
            } else {
                output = rounded.max(BigInteger.valueOf(-32768)).min(BigInteger.valueOf(32767)).intValue();
            }
            if (!rounded.equals(BigInteger.valueOf(output))) {
                held++;
            }
            greatest = greatest.max(sum.abs());
            told = new BigInteger[] {sum, rounded, BigInteger.valueOf(output), exact,
                norm(coefficients).shiftLeft(15)};
            BigInteger b = BigInteger.valueOf(below);
            BigInteger distance = rounded.multiply(b).subtract(exact).abs().shiftLeft(shift + 1);
            BigInteger more = BigInteger.valueOf(way < 2 ? 2 : 1).shiftLeft(shift);
            toldNear = distance.compareTo(sizes.add(more).multiply(b)) <= 0 ? 1 : 0;
            return output;
        }

        int back(int k) {
            return k < came.size() ? came.get(came.size() - 1 - k) : 0;
        }

        int ends() {
            int alike = 1;
            int turned = 2;
            for (int k = 0; k < taps.size(); k++) {
                int other = taps.get(taps.size() - 1 - k);
                if (taps.get(k) != other) {
                    alike = 0;
                }
                if (taps.get(k) + other != 0) {
                    turned = 0;
                }
            }
            return alike + turned;
        }
    }

    private static BigInteger norm(List<BigInteger> row) {
        BigInteger all = BigInteger.ZERO;
        for (BigInteger c : row) {
            all = all.add(c.abs());
        }
        return all;
    }

    private static BigInteger round(BigInteger above, BigInteger below, int way) {
        BigInteger[] parts = above.divideAndRemainder(below);
        BigInteger toZero = parts[0];
        BigInteger away = toZero.add(BigInteger.valueOf(above.signum()));
        int half = parts[1].abs().shiftLeft(1).compareTo(below);
        if (parts[1].signum() == 0 || way == 1) {
            return toZero;
        }
        if (way == 0) {
            return toZero.min(away);
        }
        if (half != 0) {
            return half > 0 ? away : toZero;
        }
        if (way == 2) {
            return toZero.max(away);
        }
        return toZero.testBit(0) ? away : toZero;
    }

    private static final class Model {
        final List<Filter> filters = new ArrayList<>();
        final List<Integer> chain = new ArrayList<>();
        final List<Integer> tape = new ArrayList<>();
        int lost = 0;

        Filter at(int number) {
            return number >= 0 && number < filters.size() ? filters.get(number) : null;
        }

        void drop(int number) {
            at(number).coefficients = null;
            at(number).told = null;
            chain.remove(Integer.valueOf(number));
        }

        int send(int place, int sample) {
            if (place == chain.size()) {
                if (tape.size() < 600) {
                    tape.add(sample);
                } else {
                    lost++;
                }
                return 1;
            }
            Filter f = at(chain.get(place));
            int came = 0;
            for (int j = 0; j < Math.max(1, -f.by); j++) {
                boolean first = f.by < 2 || f.came.size() % f.by == 0;
                int output = f.takes(j == 0 ? sample : 0);
                if (first) {
                    came += send(place + 1, output);
                }
            }
            return came;
        }

        long about(int number, int what) {
            Filter f = at(number);
            if (f == null || what < 0 || what > 9) {
                return -2;
            }
            boolean planned = f.coefficients != null;
            long[] all = {f.taps.size(), f.below, f.by, f.way, f.wraps ? 1 : 0, planned ? f.shift : -1,
                planned ? f.bits : -1, planned ? f.word : -1, chain.indexOf(number), f.ends()};
            return all[what];
        }

        long counted(int number, int what) {
            Filter f = at(number);
            if (f == null || what < 0 || what > 2) {
                return -2;
            }
            if (f.coefficients == null) {
                return 0;
            }
            return what == 0 ? f.came.size() : what == 1 ? f.held : f.greatest.longValueExact();
        }

        long digest() {
            List<Long> all = new ArrayList<>();
            for (int number = 0; number < filters.size(); number++) {
                Filter f = at(number);
                for (int what = 0; what <= 9; what++) {
                    all.add(about(number, what));
                }
                for (int t : f.taps) {
                    all.add((long) t);
                }
                if (f.coefficients != null) {
                    for (BigInteger c : f.coefficients) {
                        all.add(c.longValueExact());
                    }
                    for (int k = 0; k < f.taps.size(); k++) {
                        all.add((long) f.back(k));
                    }
                }
                all.add(counted(number, 0));
                all.add(counted(number, 1));
            }
            for (int sample : tape) {
                all.add((long) sample);
            }
            long h = 43;
            for (long v : all) {
                h = 31 * h + v;
            }
            return h;
        }

        int joins(int number) {
            Filter f = at(number);
            if (f == null) {
                return -2;
            }
            int product = Math.max(1, -f.by);
            for (int other : chain) {
                product *= Math.max(1, -at(other).by);
            }
            if (f.coefficients == null || chain.contains(number) || product > 16) {
                return -3;
            }
            chain.add(number);
            return chain.size() - 1;
        }
    }

    /** One run: draws calls and makes each on the class and on the model. */
    private static final class Run {
        private final int number;
        private long state;
        private int calls = 0;
        private final FirChain x = new FirChain();
        private final Model m = new Model();

        Run(int number) {
            this.number = number;
            state = 1000003L * number + 17;
        }

        private int draw(int bound) {
            state = state * 6364136223846793005L + 1442695040888963407L;
            return (int) ((state >>> 33) % bound);
        }

        private int among(int... numbers) {
            return numbers[draw(numbers.length)];
        }

        private int between(int least, int greatest) {
            return least + draw(greatest - least + 1);
        }

        private boolean seldom() {
            return draw(25) == 0;
        }

        private int wild() {
            return among(-1, 0, 1, 2, 8, 33, 51, Integer.MIN_VALUE, Integer.MAX_VALUE, 1000001, -1000001, 65536);
        }

        private int someStage() {
            return seldom() ? wild() : draw(Math.max(1, m.filters.size()));
        }

        private int someTap() {
            switch (draw(6)) {
                case 0: return among(1000000, -1000000, 0, 1, -1);
                case 1: return between(-1000000, 1000000);
                case 2: return seldom() ? wild() : 0;
                default: return between(-9, 9);
            }
        }

        private int someBelow() {
            switch (draw(4)) {
                case 0: return among(1, 1000000, 999999);
                case 1: return seldom() ? wild() : between(1, 1000000);
                case 2: return 1 << draw(8);
                default: return between(1, 30);
            }
        }

        private int someSample() {
            switch (draw(4)) {
                case 0: return among(-32768, 32767, 0);
                case 1: return seldom() ? wild() : between(-9, 9);
                default: return between(-32768, 32767);
            }
        }

        private void due(String call, long got, long want) {
            calls++;
            if (got != want) {
                wrong++;
                System.out.println("run " + number + ": " + call + " answered " + got + ", the model " + want);
            }
        }

        void go() {
            int stages = between(1, 9);
            for (int i = 0; i < stages; i++) {
                stage();
                int taps = draw(8) == 0 ? between(30, 33) : between(0, 6);
                for (int k = 0; k < taps; k++) {
                    tap(i);
                }
                plan(i);
                if (draw(3) > 0) {
                    join(i);
                }
            }
            while (calls + 2 * CALLS_OF_ONE_LOOK <= MOST_CALLS) {
                one();
            }
            look();
        }

        private void one() {
            switch (draw(24)) {
                case 0: if (seldom()) { stage(); } break;
                case 1: if (draw(4) == 0) { tap(someStage()); } break;
                case 2: if (draw(2) == 0) { change(); } break;
                case 3: way(); break;
                case 4: plan(someStage()); break;
                case 5: planAt(); break;
                case 6: case 7: case 8: join(someStage()); break;
                case 9: if (draw(5) == 0) { part(); } break;
                case 10: case 11: case 12: put(); break;
                case 13: case 14: ramp(); break;
                case 15: if (draw(4) == 0) { empty(); } break;
                case 16: if (draw(4) == 0) { reset(); } break;
                case 17: case 18: case 19: through(); break;
                case 20: look(); break;
                default: glance(); break;
            }
        }

        private void stage() {
            int below = someBelow();
            int by = seldom() ? wild() : among(1, 1, 1, 2, 3, 4, -2, -3, -4);
            long want = m.filters.size();
            if (below < 1 || below > 1000000 || by < -4 || by > 4 || by == 0 || by == -1) {
                want = -2;
            } else if (want == 8) {
                want = -4;
            } else {
                m.filters.add(new Filter(below, by));
            }
            due("stage(" + below + ", " + by + ")", x.stage(below, by), want);
        }

        private void tap(int s) {
            int t = someTap();
            Filter f = m.at(s);
            long want;
            if (f == null || Math.abs((long) t) > 1000000) {
                want = -2;
            } else if (f.taps.size() == 32) {
                want = -4;
            } else {
                f.taps.add(t);
                m.drop(s);
                want = f.taps.size();
            }
            due("tap(" + s + ", " + t + ")", x.tap(s, t), want);
        }

        private void change() {
            int s = someStage();
            int k = seldom() ? wild() : draw(6);
            int t = someTap();
            Filter f = m.at(s);
            long want = 2000000000;
            if (f != null && k >= 0 && k < f.taps.size() && Math.abs((long) t) <= 1000000) {
                want = f.taps.set(k, t);
                m.drop(s);
            }
            due("change(" + s + ", " + k + ", " + t + ")", x.change(s, k, t), want);
        }

        private void way() {
            int s = someStage();
            int way = seldom() ? wild() : draw(4);
            boolean wraps = draw(2) == 0;
            Filter f = m.at(s);
            long want = -2;
            if (f != null && way >= 0 && way <= 3) {
                want = f.way;
                f.way = way;
                f.wraps = wraps;
            }
            due("way(" + s + ", " + way + ", " + wraps + ")", x.way(s, way, wraps), want);
        }

        private void plan(int s) {
            int bits = seldom() ? wild() : between(4, 16);
            int word = seldom() ? wild() : among(between(18, 50), between(30, 50));
            Filter f = m.at(s);
            long want = -2;
            if (f != null && bits >= 4 && bits <= 16 && word >= 18 && word <= 50) {
                want = -3;
                for (int shift = 0; shift <= 24; shift++) {
                    want = f.safe(bits, word, shift) ? shift : want;
                }
                if (want >= 0) {
                    f.gets(bits, word, (int) want);
                }
            }
            due("plan(" + s + ", " + bits + ", " + word + ")", x.plan(s, bits, word), want);
        }

        private void planAt() {
            int s = someStage();
            int bits = seldom() ? wild() : between(4, 16);
            int word = seldom() ? wild() : between(18, 50);
            int shift = seldom() ? wild() : among(between(0, 24), between(0, 6));
            Filter f = m.at(s);
            long want = -2;
            if (f != null && bits >= 4 && bits <= 16 && word >= 18 && word <= 50 && shift >= 0 && shift <= 24) {
                want = f.safe(bits, word, shift) ? shift : -3;
                if (want >= 0) {
                    f.gets(bits, word, shift);
                }
            }
            due("planAt(" + s + ", " + bits + ", " + word + ", " + shift + ")",
                    x.planAt(s, bits, word, shift), want);
        }

        private void join(int s) {
            long want = m.joins(s);
            due("join(" + s + ")", x.join(s), want);
        }

        private void part() {
            due("part()", x.part(), m.chain.size());
            m.chain.clear();
        }

        private void put() {
            int sample = someSample();
            long want = sample == (short) sample ? m.send(0, sample) : -2;
            due("put(" + sample + ")", x.put(sample), want);
        }

        private void ramp() {
            int v = someSample();
            int s = draw(3) == 0 ? wild() : between(-40000, 40000);
            int n = seldom() ? among(wild(), 64, 65) : between(1, 12);
            long want = -2;
            if (v == (short) v && n >= 1 && n <= 64) {
                want = 0;
                for (int i = 0; i < n; i++) {
                    want += m.send(0, (short) (v + (long) i * s));
                }
            }
            due("ramp(" + v + ", " + s + ", " + n + ")", x.ramp(v, s, n), want);
        }

        private void empty() {
            due("empty()", x.empty(), m.tape.size());
            m.tape.clear();
        }

        private void reset() {
            due("reset()", x.reset(), m.filters.size());
            for (Filter f : m.filters) {
                f.forget();
            }
        }

        private void through() {
            int s = someStage();
            int sample = someSample();
            Filter f = m.at(s);
            long want = 2000000000;
            if (f != null && sample == (short) sample) {
                want = f.coefficients == null || f.by != 1 ? 2000000001 : f.takes(sample);
            }
            due("through(" + s + ", " + sample + ")", x.through(s, sample), want);
        }

        /** What costs few calls, so that a run has room for many that change something. */
        private void glance() {
            int s = someStage();
            Filter f = m.at(s);
            due("near(" + s + ")", x.near(s), f == null ? -2 : f.told == null ? -3 : f.toldNear);
            due("digest()", x.digest(), m.digest());
        }

        /** Every question, of which none changes anything. */
        private void look() {
            int s = someStage();
            Filter f = m.at(s);
            boolean planned = f != null && f.coefficients != null;
            int k = seldom() ? wild() : draw(7);
            due("coefficient(" + s + ", " + k + ")", x.coefficient(s, k),
                    planned && k >= 0 && k < f.taps.size() ? f.coefficients.get(k).longValueExact() : 2000000000);
            due("norm(" + s + ")", x.norm(s), planned ? norm(f.coefficients).longValueExact() : -2);
            due("near(" + s + ")", x.near(s), f == null ? -2 : f.told == null ? -3 : f.toldNear);
            for (int what = -1; what <= 10; what++) {
                due("about(" + s + ", " + what + ")", x.about(s, what), m.about(s, what));
                due("counted(" + s + ", " + what + ")", x.counted(s, what), m.counted(s, what));
                boolean known = f != null && f.told != null && what >= 0 && what <= 4;
                due("told(" + s + ", " + what + ")", x.told(s, what), known ? f.told[what].longValueExact() : 0);
            }
            int i = seldom() ? wild() : draw(600);
            due("out(" + i + ")", x.out(i), i >= 0 && i < m.tape.size() ? m.tape.get(i) : 2000000000);
            long[] counts = {m.filters.size(), m.chain.size(), m.tape.size(), m.lost};
            int what = seldom() ? wild() : draw(4);
            due("count(" + what + ")", x.count(what), what >= 0 && what < 4 ? counts[what] : -2);
            due("digest()", x.digest(), m.digest());
        }
    }
}
