import java.util.ArrayList;
import java.util.List;
import java.util.function.Supplier;
import java.util.function.ToLongFunction;

/** What the tests of the project share: answers beside those that are due. */
abstract class Checks {
    static final int MIN = Integer.MIN_VALUE;
    static final int MAX = Integer.MAX_VALUE;
    static final int BAD_NUMBER = 2000000000;
    static final int NO_NUMBER = 2000000001;
    private static int wrong = 0;

    static void due(String call, long got, long want) {
        if (got != want) {
            wrong++;
            System.out.println(call + " answered " + got + ", due is " + want);
        }
    }

    static void end(String what) {
        System.out.println(wrong == 0 ? what + " hold" : wrong + " answers are not as due");
        if (wrong != 0) {
            System.exit(1);
        }
    }

    static int addStage(FirChain x, int below, int by, int... taps) {
        int number = x.stage(below, by);
        for (int t : taps) {
            x.tap(number, t);
        }
        return number;
    }

    /** A new object with one stage that has these taps. */
    static FirChain withTaps(int below, int by, int... taps) {
        FirChain x = new FirChain();
        addStage(x, below, by, taps);
        return x;
    }

    /** A stage with these taps, planned by 16 bits, a word of 50 and this shift. */
    static int addPlanned(FirChain x, int below, int by, int shift, int... taps) {
        int number = addStage(x, below, by, taps);
        due("set up", x.planAt(number, 16, 50, shift), shift);
        return number;
    }

    static FirChain withPlan(int below, int by, int shift, int... taps) {
        FirChain x = new FirChain();
        addPlanned(x, below, by, shift, taps);
        return x;
    }

    static int[] alike(int count, int t) {
        int[] taps = new int[count];
        java.util.Arrays.fill(taps, t);
        return taps;
    }

    static void dueOnTape(String name, FirChain x, int... samples) {
        due(name + ": how many", x.count(2), samples.length);
        for (int i = 0; i < samples.length; i++) {
            due(name + ": out(" + i + ")", x.out(i), samples[i]);
        }
    }

    /**
     * Two objects are made alike, and one of them is refused a call: both answer alike
     * then, and go on alike, so the call changed nothing.
     */
    static void refused(String name, Supplier<FirChain> maker, ToLongFunction<FirChain> call, long want) {
        FirChain untouched = maker.get();
        FirChain x = maker.get();
        due(name, call.applyAsLong(x), want);
        dueAlike(name + " changed what is told", look(x), look(untouched));
        dueAlike(name + " changed what comes out", goOn(x), goOn(untouched));
        dueAlike(name + " changed what is told later", look(x), look(untouched));
    }

    private static void dueAlike(String name, List<Long> got, List<Long> want) {
        if (!got.equals(want)) {
            wrong++;
            System.out.println(name + ": " + got + ", due is " + want);
        }
    }

    /** All that can be asked and is not in the digest already. */
    private static List<Long> look(FirChain x) {
        List<Long> all = new ArrayList<>();
        all.add(x.digest());
        for (int what = 0; what <= 3; what++) {
            all.add((long) x.count(what));
        }
        int stages = x.count(0);
        for (int number = 0; number < stages; number++) {
            for (int what = 0; what <= 4; what++) {
                all.add(x.told(number, what));
            }
            all.add((long) x.near(number));
            all.add(x.counted(number, 2));
        }
        return all;
    }

    /** More samples, so that it shows which of those that thin is how far. */
    private static List<Long> goOn(FirChain x) {
        List<Long> all = new ArrayList<>();
        for (int i = 0; i < 5; i++) {
            all.add((long) x.put(1000 * i - 777));
        }
        all.add((long) x.part());
        int stages = x.count(0);
        for (int number = 0; number < stages; number++) {
            all.add((long) x.through(number, 50 - number));
            all.add((long) x.join(number));
        }
        for (int i = 0; i < 3; i++) {
            all.add((long) x.put(99 * i + 1));
        }
        return all;
    }
}
