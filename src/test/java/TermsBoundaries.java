/** The boundary cases that 'Terms' names, a test for each sentence. */
public final class TermsBoundaries extends Checks {
    public static void main(String[] args) {
        stagesAsTheyCome();
        below();
        upTo32Taps();
        tapsAreNumbers();
        tapsAreWorthTByBelow();
        plain();
        thins();
        fills();
        samplesGoIn();
        samplesComeOut();
        bitsOfAPlan();
        wordOfAPlan();
        shiftOfAPlan();
        nearestCoefficient();
        ofTwoAsNearTheEvenOne();
        safeByBits();
        safeByWord();
        safeByWordWhereItIsWide();
        aheadOfTheFirstAllWereZero();
        ringsTurn();
        roundedWhereNothingIsToRound();
        roundedAtTheSmallestShift();
        roundedAtTheGreatestShift();
        roundedBesideAHalf();
        heldAtTheEnds();
        heldAfterItIsRounded();
        wrapsAtTheEnds();
        wrapsManyTimes();
        exactIsWide();
        chainOfEight();
        chainHasEachOnce();
        chainHasPlannedOnes();
        tapeOf600();
        tapeLosesAPart();
        withNoStage();
        forgetsByAPlan();
        thinsFromTheFirstOn();
        forgetsByReset();
        forgetsByNothingElse();
        badGoesAheadOfFull();
        badGoesAheadOfNo();
        end("the boundaries of the terms");
    }

    /** "STAGES 0 .. 7, as they come" */
    private static void stagesAsTheyCome() {
        FirChain x = new FirChain();
        for (int number = 0; number < 8; number++) {
            due("stage " + number + " is not there yet", x.about(number, 0), FirChain.BAD);
            due("refused, a stage takes no number", x.stage(0, 1), FirChain.BAD);
            due("stage " + number, x.stage(10 + number, 1), number);
            due("stage " + number + " is that one", x.about(number, 1), 10 + number);
        }
        due("stage -1", x.about(-1, 1), FirChain.BAD);
        due("stage 8", x.about(8, 1), FirChain.BAD);
    }

    /** "have a BELOW (1 .. 1000000)" */
    private static void below() {
        FirChain x = new FirChain();
        due("BELOW 0", x.stage(0, 1), FirChain.BAD);
        due("BELOW 1", x.stage(1, 1), 0);
        due("BELOW 1000000", x.stage(1000000, 1), 1);
        due("BELOW 1000001", x.stage(1000001, 1), FirChain.BAD);
        due("BELOW -1", x.stage(-1, 1), FirChain.BAD);
        due("BELOW of the least int", x.stage(MIN, 1), FirChain.BAD);
        due("BELOW of the greatest int", x.stage(MAX, 1), FirChain.BAD);
        due("about 1", x.about(0, 1), 1);
        due("about 1000000", x.about(1, 1), 1000000);
    }

    /** "and up to 32 TAPS" */
    private static void upTo32Taps() {
        FirChain x = withTaps(1, 1, alike(31, 0));
        due("tap 32", x.tap(0, 7), 32);
        due("tap 33", x.tap(0, 7), FirChain.FULL);
        x.planAt(0, 16, 50, 0);
        x.through(0, 5);
        for (int ahead = 1; ahead <= 30; ahead++) {
            due("not yet at the last tap", x.through(0, 0), 0);
        }
        due("at the last tap", x.through(0, 0), 35);
        due("past the last tap", x.through(0, 0), 0);
    }

    /** "each a number T (-1000000 .. 1000000)" */
    private static void tapsAreNumbers() {
        FirChain x = withTaps(1, 1);
        due("T -1000001", x.tap(0, -1000001), FirChain.BAD);
        due("T -1000000", x.tap(0, -1000000), 1);
        due("T 1000000", x.tap(0, 1000000), 2);
        due("T 1000001", x.tap(0, 1000001), FirChain.BAD);
        due("T changed to -1000001", x.change(0, 1, -1000001), BAD_NUMBER);
        due("T changed to -1000000", x.change(0, 1, -1000000), 1000000);
        due("T changed to 1000001", x.change(0, 0, 1000001), BAD_NUMBER);
        due("T changed to 1000000", x.change(0, 0, 1000000), -1000000);
        due("T of the least int", x.tap(0, MIN), FirChain.BAD);
        due("T of the greatest int", x.tap(0, MAX), FirChain.BAD);
    }

    /** "TAP k is worth T by BELOW" */
    private static void tapsAreWorthTByBelow() {
        FirChain x = withPlan(1000000, 1, 14, 1000000, -1000000, 1, 0);
        due("1000000 by 1000000", x.coefficient(0, 0), 16384);
        due("-1000000 by 1000000", x.coefficient(0, 1), -16384);
        due("1 by 1000000", x.coefficient(0, 2), 0);
        due("0 by 1000000", x.coefficient(0, 3), 0);
        FirChain whole = withPlan(1, 1, 0, 32767, -32767);
        due("32767 by 1", whole.coefficient(0, 0), 32767);
        due("-32767 by 1", whole.coefficient(0, 1), -32767);
    }

    /** "it is PLAIN (1)" */
    private static void plain() {
        FirChain x = withPlan(1, 1, 0, 1);
        x.join(0);
        for (int i = 0; i < 9; i++) {
            due("one comes out for one", x.put(i), 1);
        }
        due("all came in", x.counted(0, 0), 9);
        due("BY 0", x.stage(1, 0), FirChain.BAD);
        due("BY -1", x.stage(1, -1), FirChain.BAD);
    }

    /** "THINS (2 .. 4: of d outputs the first one alone comes out, from the first on)" */
    private static void thins() {
        for (int d = 2; d <= 4; d++) {
            FirChain x = withPlan(1, d, 0, 1);
            x.join(0);
            for (int i = 0; i < 13; i++) {
                due("BY " + d + ", sample " + i, x.put(100 + i), i % d == 0 ? 1 : 0);
            }
            for (int i = 0; i * d < 13; i++) {
                due("BY " + d + ", output " + i, x.out(i), 100 + i * d);
            }
            due("BY " + d + ", the last one", x.out(12 / d + 1), BAD_NUMBER);
            due("BY " + d + ", all came in", x.counted(0, 0), 13);
        }
        due("BY 5", new FirChain().stage(1, 5), FirChain.BAD);
    }

    /** "FILLS (-2 .. -4: behind each sample |d| - 1 samples 0 come in, too)" */
    private static void fills() {
        for (int size = 2; size <= 4; size++) {
            FirChain x = withPlan(1, -size, 0, 1);
            x.join(0);
            due("BY -" + size, x.put(7), size);
            due("BY -" + size + " again", x.put(-7), size);
            for (int i = 0; i < 2 * size; i++) {
                int sample = i == 0 ? 7 : i == size ? -7 : 0;
                due("BY -" + size + ", output " + i, x.out(i), sample);
            }
            due("BY -" + size + ", those filled in, too", x.counted(0, 0), 2 * size);
        }
        due("BY -5", new FirChain().stage(1, -5), FirChain.BAD);
    }

    /** "SAMPLES are -32768 .. 32767", where they go in */
    private static void samplesGoIn() {
        FirChain x = withPlan(1, 1, 0, 1);
        due("put -32769", x.put(-32769), FirChain.BAD);
        due("put -32768", x.put(-32768), 1);
        due("put 32767", x.put(32767), 1);
        due("put 32768", x.put(32768), FirChain.BAD);
        due("ramp -32769", x.ramp(-32769, 0, 1), FirChain.BAD);
        due("ramp -32768", x.ramp(-32768, 0, 1), 1);
        due("ramp 32767", x.ramp(32767, 0, 1), 1);
        due("ramp 32768", x.ramp(32768, 0, 1), FirChain.BAD);
        due("through -32769", x.through(0, -32769), BAD_NUMBER);
        due("through -32768", x.through(0, -32768), -32768);
        due("through 32767", x.through(0, 32767), 32767);
        due("through 32768", x.through(0, 32768), BAD_NUMBER);
        dueOnTape("samples", x, -32768, 32767, -32768, 32767);
    }

    /** "SAMPLES are -32768 .. 32767", where they come out and are summed */
    private static void samplesComeOut() {
        FirChain x = withPlan(1, 1, 0, 0, 1);
        x.join(0);
        x.put(-32768);
        x.put(32767);
        x.put(0);
        dueOnTape("from the ring", x, 0, -32768, 32767);
        FirChain two = withPlan(1, 1, 0, 1, 1);
        due("the least sample", two.through(0, -32768), -32768);
        two.through(0, -32768);
        due("the least sum of two", two.told(0, 0), -65536);
    }

    /** "BITS (4 .. 16)" */
    private static void bitsOfAPlan() {
        FirChain x = withTaps(1, 1, 1);
        due("plan by 3 bits", x.plan(0, 3, 50), FirChain.BAD);
        due("plan by 17 bits", x.plan(0, 17, 50), FirChain.BAD);
        due("planAt by 3 bits", x.planAt(0, 3, 50, 0), FirChain.BAD);
        due("planAt by 17 bits", x.planAt(0, 17, 50, 0), FirChain.BAD);
        due("no plan yet", x.about(0, 6), FirChain.NONE);
        for (int bits = 4; bits <= 16; bits++) {
            due("plan by " + bits + " bits", x.plan(0, bits, 50), bits - 2);
            due("its bits", x.about(0, 6), bits);
            due("planAt by " + bits + " bits", x.planAt(0, bits, 50, 0), 0);
            due("its bits", x.about(0, 6), bits);
        }
    }

    /** "WORD (18 .. 50)" */
    private static void wordOfAPlan() {
        FirChain x = withTaps(1, 1, 1);
        due("plan by a word of 17", x.plan(0, 16, 17), FirChain.BAD);
        due("plan by a word of 51", x.plan(0, 16, 51), FirChain.BAD);
        due("planAt by a word of 17", x.planAt(0, 16, 17, 0), FirChain.BAD);
        due("planAt by a word of 51", x.planAt(0, 16, 51, 0), FirChain.BAD);
        due("no plan yet", x.about(0, 7), FirChain.NONE);
        for (int word = 18; word <= 50; word++) {
            due("plan by a word of " + word, x.plan(0, 16, word), Math.min(14, word - 17));
            due("its word", x.about(0, 7), word);
            due("planAt by a word of " + word, x.planAt(0, 16, word, 0), 0);
            due("its word", x.about(0, 7), word);
        }
    }

    /** "a SHIFT", of which promises 6 and 7 say 0 .. 24 */
    private static void shiftOfAPlan() {
        FirChain x = withTaps(1000000, 1, 1);
        due("SHIFT -1", x.planAt(0, 16, 50, -1), FirChain.BAD);
        due("SHIFT 25", x.planAt(0, 16, 50, 25), FirChain.BAD);
        for (int shift = 0; shift <= 24; shift++) {
            due("SHIFT " + shift, x.planAt(0, 16, 50, shift), shift);
            due("its SHIFT", x.about(0, 5), shift);
        }
        due("the greatest SHIFT is 24, though more were SAFE", x.plan(0, 16, 50), 24);
        due("the least SHIFT is 0", withTaps(1, 1, 32767).plan(0, 16, 50), 0);
    }

    /** "the nearest whole number to TAP times 2^SHIFT" */
    private static void nearestCoefficient() {
        FirChain x = withPlan(1000000, 1, 0, 499999, 500001, -499999, -500001, 999999, -999999, 0);
        int[] due = {0, 1, 0, -1, 1, -1, 0};
        for (int k = 0; k < due.length; k++) {
            due("the nearest, coefficient " + k, x.coefficient(0, k), due[k]);
        }
        // times 2^24 by 1000000 these are 16.78, 33.55, 50.33, 1677.72
        FirChain far = withPlan(1000000, 1, 24, 1, 2, 3, 100, -1, -2, -3, -100);
        int[] dueFar = {17, 34, 50, 1678, -17, -34, -50, -1678};
        for (int k = 0; k < dueFar.length; k++) {
            due("the nearest, shifted by 24, coefficient " + k, far.coefficient(0, k), dueFar[k]);
        }
    }

    /** "of two as near that which is even" */
    private static void ofTwoAsNearTheEvenOne() {
        FirChain x = withPlan(400000, 1, 0, 200000, 600000, 1000000, -200000, -600000, -1000000);
        int[] due = {0, 2, 2, 0, -2, -2};
        for (int k = 0; k < due.length; k++) {
            due("of two as near, coefficient " + k, x.coefficient(0, k), due[k]);
        }
        FirChain shifted = withPlan(32, 1, 4, 1, 3, 5, 7, -1, -3, -5, -7);
        int[] dueShifted = {0, 2, 2, 4, 0, -2, -2, -4};
        for (int k = 0; k < dueShifted.length; k++) {
            due("of two as near, shifted, coefficient " + k, shifted.coefficient(0, k), dueShifted[k]);
        }
        due("7 and a half is 8, too much for 4 bits", withTaps(2, 1, 15).planAt(0, 4, 50, 0), FirChain.NO);
        due("6 and a half is 6", withTaps(2, 1, 13).planAt(0, 4, 50, 0), 0);
    }

    /** "each COEFFICIENT is -(2^(BITS - 1) - 1) .. 2^(BITS - 1) - 1" */
    private static void safeByBits() {
        for (int bits = 4; bits <= 16; bits++) {
            int most = (1 << (bits - 1)) - 1;
            int[] safe = {most, -most};
            int[] notSafe = {most + 1, -most - 1};
            for (int i = 0; i < 2; i++) {
                due(safe[i] + " in " + bits + " bits", withTaps(1, 1, 0, safe[i]).planAt(0, bits, 50, 0), 0);
                due("plan " + safe[i] + " in " + bits + " bits", withTaps(1, 1, 0, safe[i]).plan(0, bits, 50), 0);
                due(notSafe[i] + " in " + bits + " bits",
                        withTaps(1, 1, 0, notSafe[i]).planAt(0, bits, 50, 0), FirChain.NO);
                due("plan " + notSafe[i] + " in " + bits + " bits",
                        withTaps(1, 1, 0, notSafe[i]).plan(0, bits, 50), FirChain.NO);
            }
        }
    }

    /** Taps of turned signs whose sizes are this sum, none above 32767. */
    private static int[] tapsOfNorm(int norm) {
        int[] taps = new int[32];
        int rest = norm;
        for (int k = 0; k < taps.length; k++) {
            int size = Math.min(rest, 32767);
            taps[k] = k % 2 == 0 ? size : -size;
            rest -= size;
        }
        return taps;
    }

    /** "the NORM (the sum of their sizes) times 32768 is at most 2^(WORD - 1) - 1" */
    private static void safeByWord() {
        for (int word = 18; word <= 35; word++) {
            int most = (1 << (word - 16)) - 1;
            FirChain x = withTaps(1, 1, tapsOfNorm(most));
            due("NORM " + most + " in " + word, x.planAt(0, 16, word, 0), 0);
            due("its NORM", x.norm(0), most);
            due("plan NORM " + most + " in " + word, x.plan(0, 16, word), 0);
            FirChain more = withTaps(1, 1, tapsOfNorm(most + 1));
            due("NORM " + (most + 1) + " in " + word, more.planAt(0, 16, word, 0), FirChain.NO);
            due("plan NORM " + (most + 1) + " in " + word, more.plan(0, 16, word), FirChain.NO);
        }
    }

    private static void safeByWordWhereItIsWide() {
        for (int word = 36; word <= 50; word++) {
            FirChain x = withTaps(1, 1, alike(32, -32767));
            due("the greatest NORM in " + word, x.plan(0, 16, word), 0);
            due("it", x.norm(0), 1048544);
        }
        due("the greatest NORM in 35", withTaps(1, 1, alike(32, -32767)).plan(0, 16, 35), FirChain.NO);
        due("far more than a word", withTaps(1, 1, alike(32, 1000000)).planAt(0, 16, 50, 24), FirChain.NO);
        due("far below a word", withTaps(1, 1, alike(32, -1000000)).planAt(0, 16, 50, 24), FirChain.NO);
    }

    /** "ahead of the first one all were 0" */
    private static void aheadOfTheFirstAllWereZero() {
        FirChain x = withPlan(1, 1, 0, 1, 10, 100);
        due("the first one", x.through(0, 1), 1);
        due("its sum", x.told(0, 0), 1);
        due("its exact one", x.told(0, 3), 1);
        due("the second", x.through(0, 2), 12);
        due("the third", x.through(0, 3), 123);
        due("the fourth", x.through(0, 4), 234);
    }

    /** "samples go through rings": none is forgotten too early, none kept too long */
    private static void ringsTurn() {
        int[] counts = {1, 2, 3, 31, 32};
        for (int count : counts) {
            int[] taps = new int[count];
            taps[0] = 1;
            taps[count - 1] = 1;
            FirChain x = withPlan(1, 1, 0, taps);
            for (int i = 0; i < 140; i++) {
                int sample = 3 * i + 1;
                int last = i - (count - 1);
                int due = count == 1 ? sample : sample + (last < 0 ? 0 : 3 * last + 1);
                due(count + " taps, sample " + i, x.through(0, sample), due);
            }
        }
    }

    /** "It is ROUNDED: it by 2^SHIFT", which is 1 */
    private static void roundedWhereNothingIsToRound() {
        for (int way = 0; way <= 3; way++) {
            FirChain x = withPlan(1, 1, 0, 1);
            x.way(0, way, false);
            int[] samples = {-32768, -3, -2, -1, 0, 1, 2, 3, 32767};
            for (int sample : samples) {
                due("way " + way + ", SHIFT 0, " + sample, x.through(0, sample), sample);
            }
        }
    }

    private static void dueRounded(String name, FirChain x, int sample, int... byWay) {
        for (int way = 0; way <= 3; way++) {
            x.way(0, way, false);
            due(name + ", way " + way, x.through(0, sample), byWay[way]);
            due(name + ", way " + way + ", told", x.told(0, 1), byWay[way]);
        }
    }

    /** "0 down, 1 toward 0, 2 to the nearest, half up, 3 to the nearest, half to the even one" */
    private static void roundedAtTheSmallestShift() {
        FirChain x = withPlan(2, 1, 1, 1);
        dueRounded("0", x, 0, 0, 0, 0, 0);
        dueRounded("a half", x, 1, 0, 0, 1, 0);
        dueRounded("minus a half", x, -1, -1, 0, 0, 0);
        dueRounded("1", x, 2, 1, 1, 1, 1);
        dueRounded("-1", x, -2, -1, -1, -1, -1);
        dueRounded("1 and a half", x, 3, 1, 1, 2, 2);
        dueRounded("minus 1 and a half", x, -3, -2, -1, -1, -2);
        dueRounded("2 and a half", x, 5, 2, 2, 3, 2);
        dueRounded("minus 2 and a half", x, -5, -3, -2, -2, -2);
        dueRounded("the most", x, 32767, 16383, 16383, 16384, 16384);
        dueRounded("the least", x, -32768, -16384, -16384, -16384, -16384);
    }

    /** The coefficients are 256 times 1, 3 and 5 here: a sample of -32768 makes halves of 2^24. */
    private static void roundedAtTheGreatestShift() {
        dueRounded("minus a half", withPlan(65536, 1, 24, 1), -32768, -1, 0, 0, 0);
        dueRounded("a half", withPlan(65536, 1, 24, -1), -32768, 0, 0, 1, 0);
        dueRounded("minus 1 and a half", withPlan(65536, 1, 24, 3), -32768, -2, -1, -1, -2);
        dueRounded("1 and a half", withPlan(65536, 1, 24, -3), -32768, 1, 1, 2, 2);
        dueRounded("minus 2 and a half", withPlan(65536, 1, 24, 5), -32768, -3, -2, -2, -2);
        dueRounded("2 and a half", withPlan(65536, 1, 24, -5), -32768, 2, 2, 3, 2);
        dueRounded("less than a half", withPlan(65536, 1, 24, 1), 32767, 0, 0, 0, 0);
        dueRounded("above minus a half", withPlan(65536, 1, 24, 1), -32767, -1, 0, 0, 0);
        dueRounded("the smallest below 0", withPlan(1 << 19, 1, 19, -1), 1, -1, 0, 0, 0);
        dueRounded("the smallest above 0", withPlan(1 << 19, 1, 19, 1), 1, 0, 0, 0, 0);
    }

    /** "to the nearest": a thousandth and less beside a half is not a half */
    private static void roundedBesideAHalf() {
        FirChain x = withPlan(8192, 1, 13, 1);
        dueRounded("just below a half", x, 4095, 0, 0, 0, 0);
        dueRounded("a half", x, 4096, 0, 0, 1, 0);
        dueRounded("just above a half", x, 4097, 0, 0, 1, 1);
        dueRounded("just below 1 and a half", x, 12287, 1, 1, 1, 1);
        dueRounded("1 and a half", x, 12288, 1, 1, 2, 2);
        dueRounded("just above 1 and a half", x, 12289, 1, 1, 2, 2);
        dueRounded("just above minus a half", x, -4095, -1, 0, 0, 0);
        dueRounded("minus a half", x, -4096, -1, 0, 0, 0);
        dueRounded("just below minus a half", x, -4097, -1, 0, -1, -1);
        dueRounded("just above minus 1 and a half", x, -12287, -2, -1, -1, -1);
        dueRounded("minus 1 and a half", x, -12288, -2, -1, -1, -2);
        dueRounded("just below minus 1 and a half", x, -12289, -2, -1, -2, -2);
        dueRounded("just below 1", x, 8191, 0, 0, 1, 1);
        dueRounded("just above -1", x, -8191, -1, 0, -1, -1);
    }

    /** Two taps of 1: the sum of a sample and of the one ahead, from where it was 0. */
    private static void dueOfTwo(String name, boolean wraps, int ahead, int sample, int output) {
        FirChain x = withPlan(1, 1, 0, 1, 1);
        x.way(0, 0, wraps);
        x.through(0, ahead);
        due(name, x.through(0, sample), output);
        due(name + ", ROUNDED", x.told(0, 1), (long) ahead + sample);
        due(name + ", the output", x.told(0, 2), output);
        due(name + ", to another number", x.counted(0, 1), output == ahead + sample ? 0 : 1);
    }

    /** "HELD: below -32768 it is that, above 32767 that" */
    private static void heldAtTheEnds() {
        dueOfTwo("32766", false, 32765, 1, 32766);
        dueOfTwo("32767", false, 32766, 1, 32767);
        dueOfTwo("32768", false, 32767, 1, 32767);
        dueOfTwo("65534", false, 32767, 32767, 32767);
        dueOfTwo("-32767", false, -32766, -1, -32767);
        dueOfTwo("-32768", false, -32767, -1, -32768);
        dueOfTwo("-32769", false, -32768, -1, -32768);
        dueOfTwo("-65536", false, -32768, -32768, -32768);
        FirChain far = withPlan(1, 1, 0, alike(32, 32767));
        for (int i = 0; i < 32; i++) {
            due("far above", far.through(0, 32767), 32767);
        }
        due("how far", far.told(0, 1), 32L * 32767 * 32767);
        due("far below", far.through(0, -32768), 32767);
        for (int i = 0; i < 31; i++) {
            far.through(0, -32768);
        }
        due("how far below", far.told(0, 1), 32L * 32767 * -32768);
        due("it is held", far.told(0, 2), -32768);
    }

    /** "Then it is HELD": what rounding brings past an end is held, what it brings back is not */
    private static void heldAfterItIsRounded() {
        int[] above = {32767, 32767, 32768, 32768};
        int[] below = {-32769, -32768, -32768, -32768};
        for (int way = 0; way <= 3; way++) {
            FirChain x = withPlan(2, 1, 1, 3, 1);
            x.way(0, way, false);
            due("32767 and a half", x.through(0, 21845), 32767);
            due("ROUNDED", x.told(0, 1), above[way]);
            due("to another number", x.counted(0, 1), above[way] > 32767 ? 1 : 0);
            x.reset();
            x.through(0, -2);
            due("minus 32768 and a half", x.through(0, -21845), -32768);
            due("ROUNDED", x.told(0, 1), below[way]);
            due("to another number", x.counted(0, 1), below[way] < -32768 ? 1 : 0);
            x.reset();
            x.way(0, way, true);
            due("32767 and a half, wrapped", x.through(0, 21845), (short) above[way]);
            due("to another number", x.counted(0, 1), above[way] > 32767 ? 1 : 0);
        }
    }

    /** "or, if the STAGE WRAPS, its lowest 16 bits, with sign" */
    private static void wrapsAtTheEnds() {
        dueOfTwo("32766, wrapped", true, 32765, 1, 32766);
        dueOfTwo("32767, wrapped", true, 32766, 1, 32767);
        dueOfTwo("32768, wrapped", true, 32767, 1, -32768);
        dueOfTwo("65534, wrapped", true, 32767, 32767, -2);
        dueOfTwo("-32767, wrapped", true, -32766, -1, -32767);
        dueOfTwo("-32768, wrapped", true, -32767, -1, -32768);
        dueOfTwo("-32769, wrapped", true, -32768, -1, 32767);
        dueOfTwo("-65536, wrapped", true, -32768, -32768, 0);
    }

    private static void wrapsManyTimes() {
        FirChain x = withPlan(1, 1, 0, alike(32, 32767));
        x.way(0, 0, true);
        for (int i = 1; i <= 32; i++) {
            // 32767 times 32767 is 1 beside 65536 times 16383
            due("wrapped, sample " + i, x.through(0, 32767), i);
        }
        due("each to another number", x.counted(0, 1), 32);
        FirChain low = withPlan(1, 1, 0, 32767, 32767);
        low.way(0, 0, true);
        due("32767 times -32768, wrapped", low.through(0, -32768), -32768);
        due("twice that", low.through(0, -32768), 0);
    }

    /** "THE EXACT output is the sum of TAP 0 times that sample, and so on: a fraction by BELOW" */
    private static void exactIsWide() {
        FirChain x = withPlan(1000000, 1, 0, alike(32, 1000000));
        for (int i = 0; i < 32; i++) {
            x.through(0, -32768);
        }
        due("the least exact one", x.told(0, 3), -1048576000000L);
        for (int i = 0; i < 32; i++) {
            x.through(0, 32767);
        }
        due("the greatest exact one", x.told(0, 3), 1048544000000L);
        FirChain small = withPlan(1000000, 1, 0, 1);
        small.through(0, 1);
        due("the SUM is 0", small.told(0, 0), 0);
        due("the exact one is not", small.told(0, 3), 1);
    }

    private static FirChain withEight() {
        FirChain x = new FirChain();
        for (int number = 0; number < 8; number++) {
            addPlanned(x, 1, 1, 0, 0, 1);
        }
        return x;
    }

    /** "a row of up to 8 STAGES": each of these eight keeps a sample back once */
    private static void chainOfEight() {
        FirChain x = withEight();
        for (int place = 0; place < 8; place++) {
            due("place " + place, x.join(7 - place), place);
        }
        due("in the chain", x.count(1), 8);
        for (int i = 0; i < 8; i++) {
            x.put(50);
            due("not yet through", x.out(i), 0);
        }
        x.put(0);
        due("through all eight", x.out(8), 50);
    }

    /** "each once" */
    private static void chainHasEachOnce() {
        FirChain x = withEight();
        for (int number = 0; number < 8; number++) {
            x.join(number);
            for (int again = 0; again <= number; again++) {
                due("twice", x.join(again), FirChain.NO);
            }
        }
        due("in the chain", x.count(1), 8);
    }

    /** "STAGES with PLANS" */
    private static void chainHasPlannedOnes() {
        FirChain x = withTaps(1, 1, 1);
        due("no PLAN", x.join(0), FirChain.NO);
        x.plan(0, 8, 30);
        due("a PLAN", x.join(0), 0);
        x.change(0, 0, 1);
        due("its PLAN went, and it from the chain", x.count(1), 0);
        due("no PLAN again", x.join(0), FirChain.NO);
        due("what comes in comes out", x.put(5), 1);
        due("it was not in it", x.out(0), 5);
    }

    /** "THE TAPE (at most 600; further ones are lost)" */
    private static void tapeOf600() {
        FirChain x = new FirChain();
        for (int i = 0; i < 9; i++) {
            x.ramp(64 * i, 1, 64);
        }
        x.ramp(576, 1, 23);
        due("599", x.count(2), 599);
        due("the last but one", x.put(599), 1);
        due("600", x.count(2), 600);
        due("none lost", x.count(3), 0);
        due("one more", x.put(1234), 1);
        due("still 600", x.count(2), 600);
        due("one lost", x.count(3), 1);
        due("64 more", x.ramp(1, 1, 64), 64);
        due("still 600", x.count(2), 600);
        due("65 lost", x.count(3), 65);
        due("the first stays", x.out(0), 0);
        due("the last stays", x.out(599), 599);
        due("none behind it", x.out(600), BAD_NUMBER);
    }

    /** "further ones are lost": of 16 that come at once four have room */
    private static void tapeLosesAPart() {
        FirChain x = new FirChain();
        for (int i = 0; i < 9; i++) {
            x.ramp(0, 0, 64);
        }
        x.ramp(0, 0, 20);
        addPlanned(x, 1, -4, 0, 1, 1, 1, 1);
        addPlanned(x, 1, -4, 0, 1, 2, 3, 4);
        x.join(0);
        x.join(1);
        due("all that came count", x.put(5), 16);
        due("600", x.count(2), 600);
        due("12 lost", x.count(3), 12);
        due("the first four are there", x.out(596), 5);
        due("in their order", x.out(599), 20);
        due("how many there were", x.empty(), 600);
        due("those lost do not come back", x.out(0), BAD_NUMBER);
    }

    /** "With no STAGE what comes in comes out." */
    private static void withNoStage() {
        FirChain x = withPlan(1, 1, 0, 9);
        x.put(-32768);
        x.put(0);
        x.ramp(32767, 1, 2);
        dueOnTape("no stage in the chain", x, -32768, 0, 32767, -32768);
        due("nothing came into the stage", x.counted(0, 0), 0);
    }

    /** "A STAGE forgets what came in when it gets a PLAN": with 40 of them the ring has turned */
    private static void forgetsByAPlan() {
        FirChain x = withPlan(1, 1, 0, alike(32, 1));
        x.join(0);
        x.ramp(100, 1, 40);
        due("plan", x.plan(0, 4, 50), 2);
        due("forgotten by plan", x.through(0, 3), 3);
        x.ramp(100, 1, 40);
        due("planAt", x.planAt(0, 16, 50, 0), 0);
        due("forgotten by planAt", x.through(0, 3), 3);
        x.ramp(100, 1, 40);
        due("the same PLAN again", x.planAt(0, 16, 50, 0), 0);
        due("forgotten by the same PLAN", x.through(0, 3), 3);
        FirChain two = withPlan(1, 1, 0, 1, 1);
        addPlanned(two, 1, 1, 0, 1, 1);
        two.through(0, 10);
        two.through(1, 10);
        two.planAt(0, 16, 50, 0);
        due("the other one does not forget", two.through(1, 1), 11);
        due("that one does", two.through(0, 1), 1);
    }

    /** "from the first on": of what came in ahead of the PLAN nothing is known any more */
    private static void thinsFromTheFirstOn() {
        for (int by = 2; by <= 4; by++) {
            for (int sofar = 0; sofar <= by; sofar++) {
                FirChain x = withPlan(1, by, 0, 1);
                x.join(0);
                for (int i = 0; i < sofar; i++) {
                    x.put(1);
                }
                x.planAt(0, 16, 50, 1);
                for (int i = 0; i <= by; i++) {
                    due("BY " + by + ", a PLAN after " + sofar, x.put(1), i % by == 0 ? 1 : 0);
                }
            }
        }
    }

    /** "and by reset()" */
    private static void forgetsByReset() {
        FirChain x = withPlan(1, 1, 0, alike(32, 1));
        addPlanned(x, 1, 1, 0, alike(32, 1));
        x.join(0);
        x.ramp(100, 1, 40);
        x.through(1, 10);
        x.reset();
        due("forgotten in the chain", x.through(0, 3), 3);
        due("forgotten out of the chain", x.through(1, 4), 4);
    }

    private static void forgetsByNothingElse() {
        FirChain x = withPlan(1, 1, 0, 1, 1);
        addPlanned(x, 1, 1, 0, 1, 1);
        x.through(0, 1000);
        x.join(0);
        due("not by join", x.through(0, 0), 1000);
        x.through(0, 1000);
        x.part();
        due("not by part", x.through(0, 0), 1000);
        x.through(0, 1000);
        x.way(0, 3, false);
        due("not by way", x.through(0, 0), 1000);
        x.through(0, 1000);
        x.empty();
        due("not by empty", x.through(0, 0), 1000);
        x.through(0, 1000);
        x.planAt(0, 16, 50, 15);
        due("not by a refused PLAN", x.through(0, 0), 1000);
        x.through(0, 1000);
        x.tap(1, 1);
        x.plan(1, 16, 50);
        x.stage(1, 1);
        due("not by what another stage gets", x.through(0, 0), 1000);
    }

    /** "Refused .. the first of: BAD -2 ..; NO -3 ..; FULL -4" */
    private static void badGoesAheadOfFull() {
        FirChain x = withTaps(1, 1, alike(32, 0));
        for (int i = 1; i < 8; i++) {
            x.stage(1, 1);
        }
        due("FULL stage", x.stage(1, 1), FirChain.FULL);
        due("BAD BELOW", x.stage(1000001, 1), FirChain.BAD);
        due("BAD BY", x.stage(1, 5), FirChain.BAD);
        due("FULL tap", x.tap(0, 0), FirChain.FULL);
        due("BAD T", x.tap(0, -1000001), FirChain.BAD);
        due("BAD stage", x.tap(8, 0), FirChain.BAD);
    }

    private static void badGoesAheadOfNo() {
        FirChain x = withTaps(1, 2);
        due("NO plan", x.plan(0, 4, 18), FirChain.NO);
        due("BAD BITS", x.plan(0, 3, 18), FirChain.BAD);
        due("BAD WORD", x.plan(0, 4, 17), FirChain.BAD);
        due("BAD stage", x.plan(1, 4, 18), FirChain.BAD);
        due("NO planAt", x.planAt(0, 4, 18, 0), FirChain.NO);
        due("BAD BITS", x.planAt(0, 17, 18, 0), FirChain.BAD);
        due("BAD WORD", x.planAt(0, 4, 51, 0), FirChain.BAD);
        due("BAD SHIFT", x.planAt(0, 4, 18, 25), FirChain.BAD);
        due("BAD stage", x.planAt(-1, 4, 18, 0), FirChain.BAD);
        due("NO join", x.join(0), FirChain.NO);
        due("BAD join", x.join(1), FirChain.BAD);
        due("NO through", x.through(0, 0), NO_NUMBER);
        due("BAD sample", x.through(0, 32768), BAD_NUMBER);
        due("BAD stage", x.through(1, 0), BAD_NUMBER);
        due("NO near", x.near(0), FirChain.NO);
        due("BAD near", x.near(1), FirChain.BAD);
    }
}
