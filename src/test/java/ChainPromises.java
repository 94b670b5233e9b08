/** Promises 11 to 23: the chain, the tape, and what is told beside the exact. */
public final class ChainPromises extends Checks {
    public static void main(String[] args) {
        join();
        joinOfThoseThatFill();
        part();
        put();
        putThins();
        putFills();
        ramp();
        out();
        tapeIsFull();
        empty();
        reset();
        resetForgetsAll();
        through();
        ways();
        waysNearAHalf();
        held();
        told();
        toldStays();
        near();
        nearAsItWasRounded();
        counted();
        count();
        digest();
        end("promises 11 to 23");
    }

    private static void join() {
        FirChain x = new FirChain();
        due("P11 join of no stage", x.join(0), FirChain.BAD);
        x.stage(1, 1);
        due("P11 no plan", x.join(0), FirChain.NO);
        x.tap(0, 1);
        due("P11 still no plan", x.join(0), FirChain.NO);
        x.plan(0, 8, 30);
        for (int i = 1; i < 8; i++) {
            addPlanned(x, 1, 1, 0, 1);
        }
        int[] wrongStage = {-1, 8, MIN, MAX};
        for (int number : wrongStage) {
            due("P11 join(" + number + ")", x.join(number), FirChain.BAD);
        }
        int[] order = {3, 0, 7, 1, 2, 4, 5, 6};
        for (int place = 0; place < order.length; place++) {
            due("P11 join(" + order[place] + ")", x.join(order[place]), place);
            due("P11 twice", x.join(order[place]), FirChain.NO);
            due("P11 count(1)", x.count(1), place + 1);
        }
        for (int place = 0; place < order.length; place++) {
            due("P11 place of " + order[place], x.about(order[place], 8), place);
        }
    }

    private static void joinOfThoseThatFill() {
        FirChain x = new FirChain();
        int four = addPlanned(x, 1, -4, 0, 1);
        int otherFour = addPlanned(x, 1, -4, 0, 1);
        int two = addPlanned(x, 1, -2, 0, 1);
        int thin = addPlanned(x, 1, 4, 0, 1);
        int three = addPlanned(x, 1, -3, 0, 1);
        due("P11 4", x.join(four), 0);
        due("P11 thinning makes no room", x.join(thin), 1);
        due("P11 16", x.join(otherFour), 2);
        due("P11 32", x.join(two), FirChain.NO);
        due("P11 48", x.join(three), FirChain.NO);
        due("P11 refused, it is not in it", x.about(two, 8), FirChain.NONE);
        x.part();
        due("P11 3", x.join(three), 0);
        due("P11 12", x.join(four), 1);
        due("P11 24", x.join(two), FirChain.NO);
        due("P11 48 again", x.join(otherFour), FirChain.NO);
        due("P11 thinning is free", x.join(thin), 2);
        x.change(four, 0, 1);
        due("P11 6 once one has gone", x.join(two), 2);
        due("P11 24 by another", x.join(otherFour), FirChain.NO);
    }

    private static void part() {
        FirChain x = new FirChain();
        due("P12 empty", x.part(), 0);
        addPlanned(x, 1, 1, 0, 2, 3);
        addPlanned(x, 1, 1, 0, 1);
        x.join(0);
        x.join(1);
        x.put(10);
        due("P12 part()", x.part(), 2);
        due("P12 again", x.part(), 0);
        due("P12 not in it", x.about(0, 8), FirChain.NONE);
        due("P12 count(1)", x.count(1), 0);
        due("P12 the plan stays", x.about(0, 5), 0);
        due("P12 the tape stays", x.out(0), 20);
        x.put(10);
        due("P12 with no stage what comes in comes out", x.out(1), 10);
        due("P12 join again", x.join(0), 0);
        x.put(1);
        due("P12 what came in is not forgotten", x.out(2), 32);
    }

    private static void put() {
        FirChain x = new FirChain();
        due("P13 put(-32768)", x.put(-32768), 1);
        due("P13 put(32767)", x.put(32767), 1);
        int[] wrongSample = {-32769, 32768, MIN, MAX};
        for (int sample : wrongSample) {
            due("P13 put(" + sample + ")", x.put(sample), FirChain.BAD);
        }
        dueOnTape("P13 no stage", x, -32768, 32767);

        FirChain y = new FirChain();
        addPlanned(y, 1, 1, 0, 2, -1, 3);
        addPlanned(y, 1, 1, 0, 1, 10);
        y.join(1);
        y.join(0);
        int[] samples = {1, 0, 0, 0, 5};
        for (int sample : samples) {
            due("P13 put(" + sample + ")", y.put(sample), 1);
        }
        y.put(-32769);
        // 1, 10, 0, 0, 5 comes out of the first stage
        dueOnTape("P13 two stages", y, 2, 19, -7, 30, 10);
    }

    private static void putThins() {
        for (int by = 2; by <= 4; by++) {
            FirChain x = withPlan(1, by, 0, 1, 1);
            x.join(0);
            int came = 0;
            for (int i = 0; i < 9; i++) {
                int now = x.put(1 + i);
                due("P13 thins by " + by + ", put " + i, now, i % by == 0 ? 1 : 0);
                came += now;
            }
            due("P13 how many", x.count(2), came);
            for (int i = 0; i < came; i++) {
                int at = i * by;
                due("P13 thinned by " + by, x.out(i), at == 0 ? 1 : 2 * at + 1);
            }
            due("P13 all came in", x.counted(0, 0), 9);
        }
    }

    private static void putFills() {
        FirChain x = withPlan(1, -3, 0, 1, 2, 3, 4);
        x.join(0);
        due("P13 fills by 3", x.put(10), 3);
        due("P13 fills by 3", x.put(100), 3);
        dueOnTape("P13 fills", x, 10, 20, 30, 140, 200, 300);
        due("P13 those filled in count", x.counted(0, 0), 6);

        FirChain y = new FirChain();
        addPlanned(y, 1, -4, 0, 1, 1, 1, 1);
        addPlanned(y, 1, -4, 0, 1, 2, 3, 4);
        addPlanned(y, 1, 3, 0, 1);
        y.join(0);
        y.join(1);
        due("P13 16 at once", y.put(1), 16);
        due("P13 the last of them", y.out(15), 4);
        y.join(2);
        due("P13 16 thinned by 3", y.put(1), 6);
        due("P13 thinning goes on", y.put(1), 5);
        due("P13 and on", y.put(1), 5);
        dueOnTape("P13 order of those thinned", y,
                1, 2, 3, 4, 1, 2, 3, 4, 1, 2, 3, 4, 1, 2, 3, 4,
                1, 4, 3, 2, 1, 4,
                3, 2, 1, 4, 3,
                2, 1, 4, 3, 2);
    }

    private static void ramp() {
        FirChain x = new FirChain();
        due("P14 ramp(5, -3, 4)", x.ramp(5, -3, 4), 4);
        due("P14 ramp(32766, 1, 3)", x.ramp(32766, 1, 3), 3);
        due("P14 ramp(-32768, -1, 2)", x.ramp(-32768, -1, 2), 2);
        due("P14 ramp(1, 65536 + 2, 2)", x.ramp(1, 65538, 2), 2);
        due("P14 ramp(7, MAX, 3)", x.ramp(7, MAX, 3), 3);
        due("P14 ramp(-7, MIN, 3)", x.ramp(-7, MIN, 3), 3);
        due("P14 ramp(0, 0, 1)", x.ramp(0, 0, 1), 1);
        int[] wrongSample = {-32769, 32768, MIN, MAX};
        for (int v : wrongSample) {
            due("P14 ramp(" + v + ", 1, 2)", x.ramp(v, 1, 2), FirChain.BAD);
        }
        int[] wrongCount = {0, -1, 65, MIN, MAX};
        for (int n : wrongCount) {
            due("P14 ramp(1, 1, " + n + ")", x.ramp(1, 1, n), FirChain.BAD);
        }
        dueOnTape("P14 tape", x, 5, 2, -1, -4, 32766, 32767, -32768, -32768, 32767,
                1, 3, 7, 6, 5, -7, -7, -7, 0);
        due("P14 ramp(0, 1, 64)", x.ramp(0, 1, 64), 64);
        due("P14 the last one", x.out(81), 63);

        FirChain y = new FirChain();
        addPlanned(y, 1, -2, 0, 1);
        addPlanned(y, 1, 3, 0, 1);
        y.join(0);
        y.join(1);
        due("P14 filled and thinned", y.ramp(1, 1, 6), 4);
        dueOnTape("P14 filled and thinned", y, 1, 0, 4, 0);
    }

    private static void out() {
        FirChain x = new FirChain();
        due("P15 none", x.out(0), BAD_NUMBER);
        x.put(-2);
        x.put(-3);
        due("P15 out(0)", x.out(0), -2);
        due("P15 out(1)", x.out(1), -3);
        int[] wrongPlace = {-1, 2, 599, 600, MIN, MAX};
        for (int i : wrongPlace) {
            due("P15 out(" + i + ")", x.out(i), BAD_NUMBER);
        }
        x.empty();
        due("P15 emptied", x.out(0), BAD_NUMBER);
    }

    private static void tapeIsFull() {
        FirChain x = new FirChain();
        for (int i = 0; i < 9; i++) {
            x.ramp(64 * i, 1, 64);
        }
        due("P13 count(2)", x.count(2), 576);
        due("P14 those lost count", x.ramp(576, 1, 30), 30);
        due("P22 600", x.count(2), 600);
        due("P22 lost", x.count(3), 6);
        due("P15 out(599)", x.out(599), 599);
        due("P15 out(600)", x.out(600), BAD_NUMBER);
        due("P13 put into a full tape", x.put(-1), 1);
        due("P22 lost", x.count(3), 7);
        due("P16 empty()", x.empty(), 600);
        due("P22 lost ever", x.count(3), 7);
        x.put(4);
        dueOnTape("P13 after empty()", x, 4);
    }

    private static void empty() {
        FirChain x = withPlan(1, 1, 0, 1, 1);
        due("P16 nothing", x.empty(), 0);
        x.join(0);
        x.put(3);
        x.put(4);
        due("P16 empty()", x.empty(), 2);
        due("P16 count(2)", x.count(2), 0);
        due("P16 again", x.empty(), 0);
        due("P16 the chain stays", x.count(1), 1);
        x.put(5);
        dueOnTape("P16 what came in is not forgotten", x, 9);
    }

    private static void reset() {
        FirChain x = new FirChain();
        addPlanned(x, 1, 1, 0, 1, 1);
        addPlanned(x, 1, 3, 0, 1, 1);
        x.stage(1, 1);
        x.join(0);
        x.join(1);
        x.put(30000);
        x.put(30000);
        due("P17 reset()", x.reset(), 3);
        for (int number = 0; number < 2; number++) {
            for (int what = 0; what <= 2; what++) {
                due("P21 counted(" + number + ", " + what + ")", x.counted(number, what), 0);
            }
        }
        due("P17 the chain stays", x.count(1), 2);
        due("P17 the tape stays", x.count(2), 1);
        due("P17 the plans stay", x.about(1, 5), 0);
        due("P17 thinning begins anew", x.put(5), 1);
        due("P17 what came in is forgotten", x.out(1), 5);
        due("P17 and it goes on", x.put(5), 0);
    }

    /** More samples than a ring has words, so that none of those words may stay. */
    private static void resetForgetsAll() {
        int[] taps = new int[32];
        java.util.Arrays.fill(taps, 1);
        FirChain x = withPlan(1, 1, 0, taps);
        x.join(0);
        x.ramp(100, 1, 45);
        x.reset();
        due("P17 all of it is forgotten", x.through(0, 5), 5);
        x.ramp(100, 1, 45);
        x.planAt(0, 16, 50, 0);
        due("P7 all of it is forgotten", x.through(0, 6), 6);
        x.part();
        x.ramp(1, 1, 3);
        due("P17 what came in past the chain", x.through(0, 1), 7);
        for (int i = 0; i < 31; i++) {
            x.through(0, 0);
        }
        due("P18 32 samples ahead is too far", x.through(0, 2), 2);
    }

    private static void through() {
        FirChain x = new FirChain();
        due("P18 of no stage", x.through(0, 1), BAD_NUMBER);
        addPlanned(x, 1, 1, 0, 1, 2);
        addPlanned(x, 1, 2, 0, 1);
        addPlanned(x, 1, -2, 0, 1);
        x.stage(1, 1);
        due("P18 through(0, 10)", x.through(0, 10), 10);
        due("P18 it counts as what came in", x.through(0, 1), 21);
        due("P18 nothing comes to the tape", x.count(2), 0);
        x.join(0);
        due("P18 in the chain", x.through(0, 5), 7);
        x.put(1);
        due("P18 seen by the chain", x.out(0), 11);
        due("P18 counted", x.counted(0, 0), 4);
        due("P18 through(0, -32768)", x.through(0, -32768), -32766);
        due("P18 through(0, 32767)", x.through(0, 32767), -32768);
        long digest = x.digest();
        int[] wrongSample = {-32769, 32768, MIN, MAX};
        for (int sample : wrongSample) {
            due("P18 through(0, " + sample + ")", x.through(0, sample), BAD_NUMBER);
            due("P18 BAD goes ahead of NO", x.through(1, sample), BAD_NUMBER);
        }
        int[] wrongStage = {-1, 4, MIN, MAX};
        for (int number : wrongStage) {
            due("P18 through(" + number + ", 1)", x.through(number, 1), BAD_NUMBER);
        }
        due("P18 it thins", x.through(1, 1), NO_NUMBER);
        due("P18 it fills", x.through(2, 1), NO_NUMBER);
        due("P18 no plan", x.through(3, 1), NO_NUMBER);
        due("P18 refused, nothing changed", x.digest(), digest);
        due("P18 refused, nothing came in", x.counted(1, 0), 0);
    }

    /** Quarters, so that a half and both sides of it are among them. */
    private static void ways() {
        int[] samples = {0, 1, 2, 3, 4, 5, 6, 7, -1, -2, -3, -4, -5, -6, -7, -10};
        int[][] due = {
            {0, 0, 0, 0, 1, 1, 1, 1, -1, -1, -1, -1, -2, -2, -2, -3},
            {0, 0, 0, 0, 1, 1, 1, 1, 0, 0, 0, -1, -1, -1, -1, -2},
            {0, 0, 1, 1, 1, 1, 2, 2, 0, 0, -1, -1, -1, -1, -2, -2},
            {0, 0, 0, 1, 1, 1, 2, 2, 0, 0, -1, -1, -1, -2, -2, -2},
        };
        for (int way = 0; way <= 3; way++) {
            FirChain x = withPlan(4, 1, 2, 1);
            x.way(0, way, false);
            FirChain whole = withPlan(1, 1, 0, 1);
            whole.way(0, way, false);
            for (int i = 0; i < samples.length; i++) {
                String name = "P18 way " + way + ", " + samples[i];
                due(name + " by 4", x.through(0, samples[i]), due[way][i]);
                due(name + " with shift 0", whole.through(0, samples[i]), samples[i]);
            }
        }
    }

    /** Eighths of either side of a half: nearest is not the same as beyond a third. */
    private static void waysNearAHalf() {
        int[] samples = {3, 4, 5, 11, 12, 13, -3, -4, -5, -11, -12, -13};
        int[] halfUp = {0, 1, 1, 1, 2, 2, 0, 0, -1, -1, -1, -2};
        int[] halfEven = {0, 0, 1, 1, 2, 2, 0, 0, -1, -1, -2, -2};
        FirChain x = withPlan(8, 1, 3, 1);
        for (int i = 0; i < samples.length; i++) {
            x.way(0, 2, false);
            due("P18 half up, " + samples[i] + " by 8", x.through(0, samples[i]), halfUp[i]);
            x.way(0, 3, false);
            due("P18 half to even, " + samples[i] + " by 8", x.through(0, samples[i]), halfEven[i]);
        }
    }

    private static void held() {
        FirChain x = withPlan(1, 1, 0, 2);
        int[] samples = {16383, 16384, 32767, -16384, -16385, -32768, 0};
        int[] held = {32766, 32767, 32767, -32768, -32768, -32768, 0};
        int[] wrapped = {32766, -32768, -2, -32768, 32766, 0, 0};
        int[] rounded = {32766, 32768, 65534, -32768, -32770, -65536, 0};
        for (int i = 0; i < samples.length; i++) {
            due("P18 held " + samples[i], x.through(0, samples[i]), held[i]);
            due("P19 rounded " + samples[i], x.told(0, 1), rounded[i]);
            due("P19 output " + samples[i], x.told(0, 2), held[i]);
        }
        due("P21 how many were held", x.counted(0, 1), 4);
        x.way(0, 0, true);
        for (int i = 0; i < samples.length; i++) {
            due("P18 wrapped " + samples[i], x.through(0, samples[i]), wrapped[i]);
            due("P19 rounded " + samples[i], x.told(0, 1), rounded[i]);
            due("P19 output " + samples[i], x.told(0, 2), wrapped[i]);
        }
        due("P21 how many were held or wrapped", x.counted(0, 1), 8);
        FirChain wide = withPlan(1, 1, 0, 32767, 32767);
        wide.way(0, 0, true);
        wide.through(0, -32768);
        due("P18 wrapped by far", wide.through(0, -32768), (short) (-65534L * 32768));
    }

    private static void told() {
        FirChain x = withPlan(3, 1, 4, 1, -2);
        for (int what = 0; what <= 4; what++) {
            due("P19 none yet, told(0, " + what + ")", x.told(0, what), 0);
        }
        x.through(0, 100);
        x.through(0, -30);
        // coefficients 5 and -11
        due("P19 the sum", x.told(0, 0), -150 - 1100);
        due("P19 rounded", x.told(0, 1), -79);
        due("P19 the output", x.told(0, 2), -79);
        due("P19 the exact one", x.told(0, 3), -230);
        due("P19 the greatest size", x.told(0, 4), 16 * 32768);
        int[] wrongWhat = {-1, 5, MIN, MAX};
        for (int what : wrongWhat) {
            due("P19 told(0, " + what + ")", x.told(0, what), 0);
        }
        int[] wrongStage = {-1, 1, MIN, MAX};
        for (int number : wrongStage) {
            due("P19 told(" + number + ", 0)", x.told(number, 0), 0);
        }
        int[] greatest = new int[32];
        java.util.Arrays.fill(greatest, 1000000);
        FirChain wide = withPlan(1000000, 1, 14, greatest);
        for (int i = 0; i < 32; i++) {
            wide.through(0, -32768);
        }
        due("P19 a great sum", wide.told(0, 0), -32L * 16384 * 32768);
        due("P19 a great exact one", wide.told(0, 3), -32L * 1000000 * 32768);
        due("P19 a great bound", wide.told(0, 4), 32L * 16384 * 32768);
    }

    private static void toldStays() {
        FirChain x = withPlan(1, 2, 0, 3);
        x.join(0);
        x.put(5);
        x.put(7);
        due("P19 of one that was thinned", x.told(0, 0), 21);
        x.part();
        due("P19 after part()", x.told(0, 0), 21);
        x.reset();
        due("P19 after reset()", x.told(0, 0), 21);
        due("P19 after reset(), the exact one", x.told(0, 3), 21);
        due("P20 after reset()", x.near(0), 1);
        x.way(0, 3, true);
        due("P19 after way()", x.told(0, 2), 21);
        x.planAt(0, 16, 50, 1);
        due("P19 after a plan", x.told(0, 0), 0);
        due("P19 after a plan, the greatest size", x.told(0, 4), 0);
        FirChain fill = withPlan(1, -2, 0, 3, 4);
        fill.join(0);
        fill.put(5);
        due("P19 of the 0 that was filled in", fill.told(0, 0), 20);
    }

    private static void near() {
        FirChain x = withPlan(3, 1, 0, 1);
        due("P20 none yet", x.near(0), FirChain.NO);
        int[] wrongStage = {-1, 1, MIN, MAX};
        for (int number : wrongStage) {
            due("P20 near(" + number + ")", x.near(number), FirChain.BAD);
        }
        // the coefficient is 0: the samples' sizes are nearly all of the bound
        x.through(0, 30000);
        due("P20 far, and within the bound", x.near(0), 1);
        x.reset();
        due("P20 the samples of then count", x.near(0), 1);
        x.change(0, 0, 1);
        due("P20 the plan is gone", x.near(0), FirChain.NO);
        FirChain held = withPlan(1, 1, 0, 32767);
        held.through(0, 32767);
        due("P20 as it was rounded, not as it was held", held.near(0), 1);
        FirChain far = withPlan(1000000, 1, 0, 499999, -499999);
        far.through(0, -32768);
        far.through(0, 32767);
        due("P20 sizes, not signs", far.near(0), 1);
        // the coefficient is 2 for 3 halves, the sum a half: 5 eighths away, just the bound
        FirChain just = withPlan(8, 1, 2, 3);
        just.way(0, 2, false);
        due("P20 rounded up", just.through(0, 1), 1);
        due("P20 at the bound itself", just.near(0), 1);
        FirChain none = new FirChain();
        none.stage(1, 1);
        due("P20 never planned", none.near(0), FirChain.NO);
        due("P19 never planned", none.told(0, 4), 0);
    }

    private static void nearAsItWasRounded() {
        FirChain x = withPlan(16, 1, 4, 15, 0);
        x.way(0, 0, false);
        x.through(0, 1);
        x.way(0, 2, false);
        due("P20 the way by which it was rounded down", x.near(0), 1);
        x.way(0, 1, false);
        x.through(0, -1);
        x.way(0, 3, false);
        due("P20 the way by which it was rounded toward 0", x.near(0), 1);
        for (int way = 0; way <= 3; way++) {
            x.way(0, way, false);
            for (int sample = -20; sample <= 20; sample++) {
                x.through(0, sample);
                due("P20 way " + way + ", " + sample, x.near(0), 1);
            }
        }
    }

    private static void counted() {
        FirChain x = withPlan(1, 2, 0, 3, -1);
        for (int what = 0; what <= 2; what++) {
            due("P21 at first, counted(0, " + what + ")", x.counted(0, what), 0);
        }
        x.join(0);
        x.put(-5);
        x.put(20000);
        x.put(1);
        due("P21 how many came in", x.counted(0, 0), 3);
        due("P21 held, though it was thinned", x.counted(0, 1), 1);
        due("P21 the greatest size", x.counted(0, 2), 60005);
        x.put(-32768);
        due("P21 the greatest size, below 0", x.counted(0, 2), 98305);
        int[] wrongWhat = {-1, 3, MIN, MAX};
        for (int what : wrongWhat) {
            due("P21 counted(0, " + what + ")", x.counted(0, what), FirChain.BAD);
        }
        int[] wrongStage = {-1, 1, MIN, MAX};
        for (int number : wrongStage) {
            due("P21 counted(" + number + ", 0)", x.counted(number, 0), FirChain.BAD);
        }
        x.change(0, 0, 3);
        for (int what = 0; what <= 2; what++) {
            due("P21 without a plan, counted(0, " + what + ")", x.counted(0, what), 0);
        }
        due("P21 without a plan, BAD", x.counted(0, 3), FirChain.BAD);
        x.plan(0, 16, 50);
        due("P21 with a new plan", x.counted(0, 0), 0);
    }

    private static void count() {
        FirChain x = new FirChain();
        addPlanned(x, 1, 1, 0, 1);
        addPlanned(x, 1, 1, 0, 1);
        x.stage(1, 1);
        x.join(1);
        x.join(0);
        x.ramp(1, 1, 5);
        due("P22 stages", x.count(0), 3);
        due("P22 in the chain", x.count(1), 2);
        due("P22 samples of the tape", x.count(2), 5);
        due("P22 lost", x.count(3), 0);
        int[] wrongWhat = {-1, 4, MIN, MAX};
        for (int what : wrongWhat) {
            due("P22 count(" + what + ")", x.count(what), FirChain.BAD);
        }
    }

    private static long mixed(long... values) {
        long h = 43;
        for (long v : values) {
            h = 31 * h + v;
        }
        return h;
    }

    private static void digest() {
        FirChain x = new FirChain();
        due("P23 new", x.digest(), 43);
        x.put(-9);
        due("P23 the tape alone", x.digest(), mixed(-9));
        x.empty();
        x.stage(5, 3);
        due("P23 a stage", x.digest(), mixed(0, 5, 3, 0, 0, -1, -1, -1, -1, 3, 0, 0));
        x.tap(0, 10);
        x.tap(0, -20);
        due("P23 taps", x.digest(), mixed(2, 5, 3, 0, 0, -1, -1, -1, -1, 0, 10, -20, 0, 0));
        x.planAt(0, 9, 40, 1);
        x.way(0, 2, true);
        x.join(0);
        x.put(7);
        x.put(20000);
        x.put(6);
        x.put(5);
        due("P23 a plan", x.digest(), mixed(2, 5, 3, 2, 1, 1, 9, 40, 0, 0,
                10, -20, 4, -8, 5, 6, 4, 2, 14, -14));
        x.stage(2, 1);
        x.tap(1, 1);
        due("P23 two stages", x.digest(), mixed(2, 5, 3, 2, 1, 1, 9, 40, 0, 0,
                10, -20, 4, -8, 5, 6, 4, 2,
                1, 2, 1, 0, 0, -1, -1, -1, -1, 1, 1, 0, 0,
                14, -14));
        x.reset();
        due("P23 after reset()", x.digest(), mixed(2, 5, 3, 2, 1, 1, 9, 40, 0, 0,
                10, -20, 4, -8, 0, 0, 0, 0,
                1, 2, 1, 0, 0, -1, -1, -1, -1, 1, 1, 0, 0,
                14, -14));
        long before = x.digest();
        due("P23 it changes nothing", x.digest(), before);
    }
}
