/** The boundary cases that promises 1 to 10 name, a test for each sentence. */
public final class StageBoundaries extends Checks {
    public static void main(String[] args) {
        newObjectHasNoStage();
        newObjectHasAnEmptyChain();
        newObjectHasAnEmptyTape();
        stageBad();
        stageBadByItsBy();
        stageFull();
        tapCounts();
        tapTakesThePlan();
        tapTakesItFromTheChain();
        tapBad();
        tapFull();
        changeTellsWhatItWas();
        changeTakesThePlan();
        changeTakesItFromTheChain();
        changeBad();
        wayAtFirst();
        wayEnds();
        wayBad();
        planFindsTheGreatest();
        planBad();
        planNoneIsSafe();
        planHasNoTap();
        planThatItHadStays();
        planOfOneInTheChain();
        planAtShifts();
        planAtBad();
        planAtNotSafe();
        planAtHasNoTap();
        coefficientEnds();
        coefficientBad();
        coefficientWithoutAPlan();
        aboutTaps();
        aboutWithoutAPlan();
        aboutPlaces();
        aboutEndsAlike();
        aboutBad();
        normEnds();
        normBad();
        end("the boundaries of promises 1 to 10");
    }

    /** Stages of each kind, planned or not, in the chain or not, with samples in them. */
    private static FirChain busy() {
        FirChain x = new FirChain();
        addPlanned(x, 3, 1, 4, 1, -2, 5);
        addPlanned(x, 1, 3, 0, 1, 1);
        addPlanned(x, 1, -2, 1, 2, 1, 7);
        addStage(x, 5, 1, 1, 1000000);
        x.stage(9, 1);
        x.join(0);
        x.join(1);
        x.way(0, 2, true);
        x.ramp(30000, 777, 5);
        x.through(0, -5);
        return x;
    }

    /** Eight stages, 32 taps in the first of them, all in the chain, and a tape of 600. */
    private static FirChain full() {
        FirChain x = new FirChain();
        for (int i = 0; i < 10; i++) {
            x.ramp(100 * i, 3, 60);
        }
        addPlanned(x, 1, 1, 0, alike(32, 1));
        for (int i = 1; i < 8; i++) {
            addPlanned(x, 1, i == 4 ? 2 : 1, 0, 1, i);
        }
        for (int i = 0; i < 8; i++) {
            x.join(i);
        }
        x.ramp(5, 6, 7);
        return x;
    }

    /** P1 "No STAGES" */
    private static void newObjectHasNoStage() {
        FirChain x = new FirChain();
        due("P1 count(0)", x.count(0), 0);
        due("P1 reset()", x.reset(), 0);
        for (int number = -1; number <= 8; number++) {
            due("P1 tap", x.tap(number, 0), FirChain.BAD);
            due("P1 change", x.change(number, 0, 0), BAD_NUMBER);
            due("P1 way", x.way(number, 0, false), FirChain.BAD);
            due("P1 plan", x.plan(number, 8, 30), FirChain.BAD);
            due("P1 planAt", x.planAt(number, 8, 30, 0), FirChain.BAD);
            due("P1 coefficient", x.coefficient(number, 0), BAD_NUMBER);
            due("P1 about", x.about(number, 0), FirChain.BAD);
            due("P1 norm", x.norm(number), FirChain.BAD);
            due("P1 join", x.join(number), FirChain.BAD);
            due("P1 through", x.through(number, 0), BAD_NUMBER);
            due("P1 told", x.told(number, 0), 0);
            due("P1 near", x.near(number), FirChain.BAD);
            due("P1 counted", x.counted(number, 0), FirChain.BAD);
        }
        due("P1 digest", x.digest(), 43);
    }

    /** P1 "an empty CHAIN" */
    private static void newObjectHasAnEmptyChain() {
        FirChain x = new FirChain();
        due("P1 count(1)", x.count(1), 0);
        due("P1 part()", x.part(), 0);
        due("P1 put", x.put(-3), 1);
        due("P1 what comes in comes out", x.out(0), -3);
    }

    /** P1 "an empty TAPE" */
    private static void newObjectHasAnEmptyTape() {
        FirChain x = new FirChain();
        due("P1 count(2)", x.count(2), 0);
        due("P1 count(3)", x.count(3), 0);
        due("P1 out(0)", x.out(0), BAD_NUMBER);
        due("P1 empty()", x.empty(), 0);
    }

    /** P2 "BAD": BELOW is not as told */
    private static void stageBad() {
        int[] wrongBelow = {0, -1, -1000000, 1000001, MIN, MAX};
        for (int below : wrongBelow) {
            refused("P2 stage(" + below + ", 1)", StageBoundaries::busy, x -> x.stage(below, 1), FirChain.BAD);
            refused("P2 full, stage(" + below + ", 1)", StageBoundaries::full, x -> x.stage(below, 1), FirChain.BAD);
        }
    }

    /** P2 "BAD: also BY is not 1 .. 4, -2 .. -4" */
    private static void stageBadByItsBy() {
        int[] wrongBy = {0, -1, 5, -5, 8, -8, MIN, MAX};
        for (int by : wrongBy) {
            refused("P2 stage(1, " + by + ")", StageBoundaries::busy, x -> x.stage(1, by), FirChain.BAD);
            refused("P2 full, stage(1, " + by + ")", StageBoundaries::full, x -> x.stage(1, by), FirChain.BAD);
        }
        int[] rightBy = {1, 2, 3, 4, -2, -3, -4};
        FirChain x = new FirChain();
        for (int i = 0; i < rightBy.length; i++) {
            due("P2 stage(1, " + rightBy[i] + ")", x.stage(1, rightBy[i]), i);
            due("P2 its BY", x.about(i, 2), rightBy[i]);
        }
    }

    /** P2 "FULL: 8" */
    private static void stageFull() {
        FirChain x = new FirChain();
        for (int i = 0; i < 7; i++) {
            x.stage(1, 1);
        }
        due("P2 the eighth", x.stage(1, 1), 7);
        due("P2 the ninth", x.stage(1, 1), FirChain.FULL);
        refused("P2 full", StageBoundaries::full, y -> y.stage(1, 1), FirChain.FULL);
        refused("P2 full, to fill", StageBoundaries::full, y -> y.stage(1000000, -4), FirChain.FULL);
    }

    /** P3 "A TAP more of a STAGE: how many" */
    private static void tapCounts() {
        FirChain x = new FirChain();
        x.stage(1, 1);
        x.stage(1, 1);
        due("P3 none", x.about(0, 0), 0);
        for (int count = 1; count <= 32; count++) {
            due("P3 tap " + count, x.tap(0, 0), count);
        }
        due("P3 the first of another one", x.tap(1, 0), 1);
    }

    /** P3 "Its PLAN goes" */
    private static void tapTakesThePlan() {
        FirChain x = busy();
        due("P3 out of the chain", x.tap(2, 0), 4);
        due("P3 in the chain", x.tap(0, 0), 4);
        int[] numbers = {0, 2};
        for (int number : numbers) {
            for (int what = 5; what <= 8; what++) {
                due("P3 about(" + number + ", " + what + ")", x.about(number, what), FirChain.NONE);
            }
            for (int what = 0; what <= 2; what++) {
                due("P3 counted(" + number + ", " + what + ")", x.counted(number, what), 0);
            }
            due("P3 coefficient", x.coefficient(number, 0), BAD_NUMBER);
            due("P3 norm", x.norm(number), FirChain.BAD);
            due("P3 join", x.join(number), FirChain.NO);
        }
        due("P3 through", x.through(0, 1), NO_NUMBER);
        due("P3 its WAY stays", x.about(0, 3), 2);
        due("P3 it still WRAPS", x.about(0, 4), 1);
        due("P3 the others keep theirs", x.about(1, 5), 0);
        due("P3 one that had none", x.tap(3, 0), 3);
    }

    /** P3 "(and it goes from THE CHAIN)": the first, one between, the last, the only one */
    private static void tapTakesItFromTheChain() {
        int[][] places = {{-1, 0, 1, 2}, {0, -1, 1, 2}, {0, 1, -1, 2}, {0, 1, 2, -1}};
        for (int gone = 0; gone < 4; gone++) {
            FirChain x = new FirChain();
            for (int number = 0; number < 4; number++) {
                addPlanned(x, 1, 1, 0, 2 + number);
                x.join(number);
            }
            x.tap(gone, 0);
            for (int number = 0; number < 4; number++) {
                due("P3 " + gone + " goes, place of " + number, x.about(number, 8), places[gone][number]);
            }
            due("P3 how many are left", x.count(1), 3);
            x.put(1);
            due("P3 the others still work", x.out(0), 120 / (2 + gone));
            x.planAt(gone, 16, 50, 0);
            due("P3 it comes back as the last one", x.join(gone), 3);
        }
        FirChain only = withPlan(1, 1, 0, 3);
        only.join(0);
        only.tap(0, 1);
        due("P3 the only one", only.count(1), 0);
        FirChain eight = full();
        eight.tap(7, 1);
        due("P3 of eight", eight.count(1), 7);
        due("P3 the last but one stays", eight.about(6, 8), 6);
    }

    /** P3 "BAD" */
    private static void tapBad() {
        int[] wrongStage = {-1, 5, 8, MIN, MAX};
        for (int number : wrongStage) {
            refused("P3 tap(" + number + ", 1)", StageBoundaries::busy, x -> x.tap(number, 1), FirChain.BAD);
        }
        int[] wrongTap = {1000001, -1000001, MIN, MAX};
        for (int t : wrongTap) {
            refused("P3 tap(0, " + t + ")", StageBoundaries::busy, x -> x.tap(0, t), FirChain.BAD);
            refused("P3 full, tap(0, " + t + ")", StageBoundaries::full, x -> x.tap(0, t), FirChain.BAD);
        }
        refused("P3 full, tap(8, 1)", StageBoundaries::full, x -> x.tap(8, 1), FirChain.BAD);
    }

    /** P3 "FULL: 32" */
    private static void tapFull() {
        refused("P3 the 33rd", StageBoundaries::full, x -> x.tap(0, 1), FirChain.FULL);
        refused("P3 the 33rd, of 1000000", StageBoundaries::full, x -> x.tap(0, 1000000), FirChain.FULL);
        due("P3 another one is not full", full().tap(1, 1), 3);
    }

    /** P4 "TAP k of a STAGE becomes t: what it was" */
    private static void changeTellsWhatItWas() {
        FirChain x = withTaps(1, 1, alike(32, 5));
        due("P4 the first", x.change(0, 0, -1000000), 5);
        due("P4 the last", x.change(0, 31, 1000000), 5);
        due("P4 the first again", x.change(0, 0, 0), -1000000);
        due("P4 the last again", x.change(0, 31, 0), 1000000);
        for (int k = 1; k < 31; k++) {
            due("P4 the others stay, " + k, x.change(0, k, 5), 5);
        }
        due("P4 how many there are", x.about(0, 0), 32);
    }

    /** P4 "Its PLAN goes", also if t is what it was */
    private static void changeTakesThePlan() {
        FirChain x = busy();
        due("P4 the same again", x.change(0, 2, 5), 5);
        due("P4 another one", x.change(2, 0, 3), 2);
        int[] numbers = {0, 2};
        for (int number : numbers) {
            for (int what = 5; what <= 8; what++) {
                due("P4 about(" + number + ", " + what + ")", x.about(number, what), FirChain.NONE);
            }
            for (int what = 0; what <= 2; what++) {
                due("P4 counted(" + number + ", " + what + ")", x.counted(number, what), 0);
            }
            due("P4 coefficient", x.coefficient(number, 0), BAD_NUMBER);
            due("P4 norm", x.norm(number), FirChain.BAD);
            due("P4 join", x.join(number), FirChain.NO);
        }
        due("P4 through", x.through(0, 1), NO_NUMBER);
        due("P4 the others keep theirs", x.about(1, 5), 0);
    }

    /** P4 "(and it goes from THE CHAIN)": the first, one between, the last */
    private static void changeTakesItFromTheChain() {
        for (int gone = 0; gone < 8; gone++) {
            FirChain x = full();
            x.change(gone, 0, 1);
            due("P4 it is gone", x.about(gone, 8), FirChain.NONE);
            for (int number = 0; number < 8; number++) {
                if (number != gone) {
                    due("P4 place of " + number, x.about(number, 8), number < gone ? number : number - 1);
                }
            }
            due("P4 how many are left", x.count(1), 7);
        }
    }

    /** P4 "BAD: 2000000000" */
    private static void changeBad() {
        int[] wrongStage = {-1, 5, MIN, MAX};
        for (int number : wrongStage) {
            refused("P4 change(" + number + ", 0, 1)", StageBoundaries::busy, x -> x.change(number, 0, 1), BAD_NUMBER);
        }
        int[] wrongTap = {-1, 3, 31, 32, MIN, MAX};
        for (int k : wrongTap) {
            refused("P4 change(0, " + k + ", 1)", StageBoundaries::busy, x -> x.change(0, k, 1), BAD_NUMBER);
        }
        int[] wrongNumber = {1000001, -1000001, MIN, MAX};
        for (int t : wrongNumber) {
            refused("P4 change(0, 0, " + t + ")", StageBoundaries::busy, x -> x.change(0, 0, t), BAD_NUMBER);
        }
        refused("P4 no TAP", StageBoundaries::busy, x -> x.change(4, 0, 1), BAD_NUMBER);
        refused("P4 of 32 the 33rd", StageBoundaries::full, x -> x.change(0, 32, 1), BAD_NUMBER);
    }

    /** P5 "0 at first", "at first not" */
    private static void wayAtFirst() {
        FirChain x = withPlan(2, 1, 1, 1, 2, 2);
        due("P5 the WAY at first", x.about(0, 3), 0);
        due("P5 it does not WRAP at first", x.about(0, 4), 0);
        due("P5 down at first", x.through(0, -1), -1);
        x.through(0, 32767);
        due("P5 held at first", x.through(0, 32767), 32767);
        due("P5 which WAY it was", x.way(0, 0, false), 0);
    }

    /** P5 "The WAY (0 .. 3 ..)": each one, and whether it WRAPS, with what it was */
    private static void wayEnds() {
        FirChain x = withTaps(1, 1);
        int before = 0;
        int[] ways = {3, 3, 0, 2, 1, 0, 3, 1, 2};
        for (int i = 0; i < ways.length; i++) {
            boolean wraps = i % 3 != 0;
            due("P5 which WAY it was", x.way(0, ways[i], wraps), before);
            due("P5 the WAY", x.about(0, 3), ways[i]);
            due("P5 whether it WRAPS", x.about(0, 4), wraps ? 1 : 0);
            before = ways[i];
        }
        FirChain y = busy();
        y.way(1, 3, true);
        due("P5 another one stays", y.about(0, 3), 2);
        due("P5 the PLAN stays", y.about(1, 5), 0);
        due("P5 its place stays", y.about(1, 8), 1);
    }

    /** P5 "BAD" */
    private static void wayBad() {
        int[] wrongWay = {-1, 4, MIN, MAX};
        for (int way : wrongWay) {
            refused("P5 way(0, " + way + ", false)", StageBoundaries::busy, x -> x.way(0, way, false), FirChain.BAD);
        }
        int[] wrongStage = {-1, 5, MIN, MAX};
        for (int number : wrongStage) {
            refused("P5 way(" + number + ", 0, true)", StageBoundaries::busy,
                    x -> x.way(number, 0, true), FirChain.BAD);
        }
    }

    /** P6 "the PLAN with the greatest SHIFT (0 .. 24) that is SAFE: the SHIFT" */
    private static void planFindsTheGreatest() {
        due("P6 all 0", withTaps(1, 1, alike(32, 0)).plan(0, 4, 18), 24);
        due("P6 24 by far", withTaps(1000000, 1, 1).plan(0, 16, 50), 24);
        due("P6 24, the last one that is SAFE", withTaps(1000000, 1, 447).plan(0, 14, 50), 24);
        // 4.19 at 22, 8.39 at 23
        due("P6 by BITS, 22", withTaps(1000000, 1, 1).plan(0, 4, 50), 22);
        due("P6 by BITS, 1", withTaps(1, 1, 3).plan(0, 4, 50), 1);
        due("P6 by BITS, 0", withTaps(1, 1, 4).plan(0, 4, 50), 0);
        due("P6 by WORD, 1", withTaps(1, 1, 1).plan(0, 16, 18), 1);
        due("P6 by WORD, 0", withTaps(1, 1, 1, -1).plan(0, 16, 18), 0);
        for (int shift = 0; shift <= 14; shift++) {
            int t = 1 << (14 - shift);
            FirChain x = withTaps(1, 1, t);
            due("P6 of " + t, x.plan(0, 16, 50), shift);
            due("P6 the SHIFT", x.about(0, 5), shift);
            due("P6 one more is not SAFE", x.planAt(0, 16, 50, shift + 1), FirChain.NO);
        }
    }

    /** P6 "BAD" */
    private static void planBad() {
        int[] wrongStage = {-1, 5, MIN, MAX};
        for (int number : wrongStage) {
            refused("P6 plan(" + number + ", 8, 30)", StageBoundaries::busy, x -> x.plan(number, 8, 30), FirChain.BAD);
        }
        int[] wrongBits = {3, 17, 0, -4, MIN, MAX};
        for (int bits : wrongBits) {
            refused("P6 plan(0, " + bits + ", 30)", StageBoundaries::busy, x -> x.plan(0, bits, 30), FirChain.BAD);
        }
        int[] wrongWord = {17, 51, 0, -18, MIN, MAX};
        for (int word : wrongWord) {
            refused("P6 plan(0, 8, " + word + ")", StageBoundaries::busy, x -> x.plan(0, 8, word), FirChain.BAD);
        }
        refused("P6 no TAP, and BITS 3", StageBoundaries::busy, x -> x.plan(4, 3, 30), FirChain.BAD);
    }

    /** P6 "NO: none is" */
    private static void planNoneIsSafe() {
        refused("P6 200000 in 16 bits", StageBoundaries::busy, x -> x.plan(3, 16, 50), FirChain.NO);
        refused("P6 7 in 4 bits is, NORM 10 in 18 is not", StageBoundaries::busy, x -> x.plan(2, 4, 18), FirChain.NO);
        due("P6 in 19 neither", busy().plan(2, 4, 19), FirChain.NO);
        due("P6 in 20 it is", busy().plan(2, 4, 20), 0);
    }

    /** P6 "or it has no TAP" */
    private static void planHasNoTap() {
        refused("P6 no TAP", StageBoundaries::busy, x -> x.plan(4, 16, 50), FirChain.NO);
        FirChain x = busy();
        x.tap(4, 0);
        due("P6 a TAP of 0", x.plan(4, 16, 50), 24);
    }

    /** P6 "(the PLAN that it had stays)" */
    private static void planThatItHadStays() {
        FirChain x = withTaps(1, 1, 3, 4);
        x.planAt(0, 5, 40, 1);
        x.join(0);
        x.put(10);
        due("P6 NORM 7 in 18", x.plan(0, 5, 18), FirChain.NO);
        due("P6 SHIFT", x.about(0, 5), 1);
        due("P6 BITS", x.about(0, 6), 5);
        due("P6 WORD", x.about(0, 7), 40);
        due("P6 place", x.about(0, 8), 0);
        due("P6 coefficient", x.coefficient(0, 1), 8);
        due("P6 norm", x.norm(0), 14);
        due("P6 what came in", x.counted(0, 0), 1);
        due("P6 it goes on", x.through(0, 1), 43);
    }

    /** P6 "A STAGE gets the PLAN": by tap() and change() alone it goes from THE CHAIN */
    private static void planOfOneInTheChain() {
        FirChain x = busy();
        due("P6 in THE CHAIN", x.plan(0, 8, 30), 6);
        due("P6 its place stays", x.about(0, 8), 0);
        due("P6 the other's place stays", x.about(1, 8), 1);
        due("P7 in THE CHAIN", x.planAt(1, 8, 30, 5), 5);
        due("P7 its place stays", x.about(1, 8), 1);
        due("P7 both are in it", x.count(1), 2);
    }

    /** P7 "with a SHIFT told (0 .. 24)" */
    private static void planAtShifts() {
        FirChain x = withTaps(1000000, 1, 1, -1);
        for (int shift = 24; shift >= 0; shift--) {
            due("P7 " + shift, x.planAt(0, 16, 50, shift), shift);
            due("P7 the SHIFT", x.about(0, 5), shift);
        }
        due("P7 at 24", x.planAt(0, 16, 50, 24), 24);
        due("P7 coefficient at 24", x.coefficient(0, 1), -17);
        due("P7 at 0", x.planAt(0, 16, 50, 0), 0);
        due("P7 coefficient at 0", x.coefficient(0, 1), 0);
    }

    /** P7 BAD, as "The same" */
    private static void planAtBad() {
        int[] wrongShift = {-1, 25, 32, 64, MIN, MAX};
        for (int shift : wrongShift) {
            refused("P7 planAt(0, 8, 30, " + shift + ")", StageBoundaries::busy,
                    x -> x.planAt(0, 8, 30, shift), FirChain.BAD);
        }
        int[] wrongBits = {3, 17, MIN, MAX};
        for (int bits : wrongBits) {
            refused("P7 planAt(0, " + bits + ", 30, 0)", StageBoundaries::busy,
                    x -> x.planAt(0, bits, 30, 0), FirChain.BAD);
        }
        int[] wrongWord = {17, 51, MIN, MAX};
        for (int word : wrongWord) {
            refused("P7 planAt(0, 8, " + word + ", 0)", StageBoundaries::busy,
                    x -> x.planAt(0, 8, word, 0), FirChain.BAD);
        }
        int[] wrongStage = {-1, 5, MIN, MAX};
        for (int number : wrongStage) {
            refused("P7 planAt(" + number + ", 8, 30, 0)", StageBoundaries::busy,
                    x -> x.planAt(number, 8, 30, 0), FirChain.BAD);
        }
        refused("P7 no TAP, and SHIFT 25", StageBoundaries::busy, x -> x.planAt(4, 8, 30, 25), FirChain.BAD);
    }

    /** P7 "NO: it is not SAFE": none smaller is taken in its place, and the PLAN that it had stays */
    private static void planAtNotSafe() {
        refused("P7 BITS", StageBoundaries::busy, x -> x.planAt(1, 4, 50, 3), FirChain.NO);
        due("P7 BITS that suffice", busy().planAt(1, 4, 50, 2), 2);
        refused("P7 WORD", StageBoundaries::busy, x -> x.planAt(1, 16, 20, 3), FirChain.NO);
        due("P7 WORD that suffices", busy().planAt(1, 16, 20, 2), 2);
        refused("P7 far from SAFE", StageBoundaries::busy, x -> x.planAt(3, 16, 50, 24), FirChain.NO);
    }

    /** P7 "or it has no TAP" */
    private static void planAtHasNoTap() {
        refused("P7 no TAP", StageBoundaries::busy, x -> x.planAt(4, 16, 50, 0), FirChain.NO);
        FirChain x = busy();
        x.tap(4, 0);
        due("P7 a TAP of 0", x.planAt(4, 4, 18, 24), 24);
    }

    /** P8 "COEFFICIENT k of a STAGE": the first and the last */
    private static void coefficientEnds() {
        int[] taps = alike(32, 0);
        taps[0] = -32767;
        taps[31] = 32767;
        FirChain x = withPlan(1, 1, 0, taps);
        due("P8 the first", x.coefficient(0, 0), -32767);
        due("P8 the second", x.coefficient(0, 1), 0);
        due("P8 the last", x.coefficient(0, 31), 32767);
        due("P8 behind it", x.coefficient(0, 32), BAD_NUMBER);
    }

    /** P8 "BAD: 2000000000" */
    private static void coefficientBad() {
        int[] wrongTap = {-1, 3, 31, 32, MIN, MAX};
        for (int k : wrongTap) {
            refused("P8 coefficient(0, " + k + ")", StageBoundaries::busy, x -> x.coefficient(0, k), BAD_NUMBER);
        }
        int[] wrongStage = {-1, 5, MIN, MAX};
        for (int number : wrongStage) {
            refused("P8 coefficient(" + number + ", 0)", StageBoundaries::busy,
                    x -> x.coefficient(number, 0), BAD_NUMBER);
        }
    }

    /** P8 "also without a PLAN" */
    private static void coefficientWithoutAPlan() {
        refused("P8 never planned", StageBoundaries::busy, x -> x.coefficient(3, 0), BAD_NUMBER);
        refused("P8 no TAP", StageBoundaries::busy, x -> x.coefficient(4, 0), BAD_NUMBER);
        FirChain x = busy();
        due("P8 planned", x.coefficient(2, 0), 4);
        x.change(2, 2, 7);
        due("P8 no more", x.coefficient(2, 0), BAD_NUMBER);
    }

    /** P9 "0 how many TAPS" */
    private static void aboutTaps() {
        due("P9 none", withTaps(1, 1).about(0, 0), 0);
        due("P9 one", withTaps(1, 1, 0).about(0, 0), 1);
        due("P9 32", withTaps(1, 1, alike(32, 0)).about(0, 0), 32);
    }

    /** P9 "5 SHIFT (NONE: no PLAN), 6 BITS, 7 WORD (NONE likewise)" */
    private static void aboutWithoutAPlan() {
        int[] numbers = {3, 4};
        for (int number : numbers) {
            for (int what = 5; what <= 7; what++) {
                due("P9 about(" + number + ", " + what + ")", busy().about(number, what), FirChain.NONE);
            }
        }
        FirChain x = withTaps(1, 1, 0);
        x.planAt(0, 4, 18, 0);
        due("P9 the least SHIFT", x.about(0, 5), 0);
        due("P9 the least BITS", x.about(0, 6), 4);
        due("P9 the least WORD", x.about(0, 7), 18);
        x.planAt(0, 16, 50, 24);
        due("P9 the greatest SHIFT", x.about(0, 5), 24);
        due("P9 the greatest BITS", x.about(0, 6), 16);
        due("P9 the greatest WORD", x.about(0, 7), 50);
    }

    /** P9 "8 its place in THE CHAIN (NONE: it is not in it)" */
    private static void aboutPlaces() {
        FirChain x = full();
        due("P9 the first", x.about(0, 8), 0);
        due("P9 the last", x.about(7, 8), 7);
        x.part();
        for (int number = 0; number < 8; number++) {
            due("P9 not in it", x.about(number, 8), FirChain.NONE);
        }
        x.join(7);
        due("P9 the first then", x.about(7, 8), 0);
        due("P9 not in it then", x.about(0, 8), FirChain.NONE);
    }

    /** P9 "9 whether TAPS read from both ends alike (1), with turned signs (2), both (3: all 0), or neither (0)" */
    private static void aboutEndsAlike() {
        due("P9 no TAP", withTaps(1, 1).about(0, 9), 3);
        due("P9 one of 0", withTaps(1, 1, 0).about(0, 9), 3);
        due("P9 one", withTaps(1, 1, -4).about(0, 9), 1);
        due("P9 two alike", withTaps(1, 1, 4, 4).about(0, 9), 1);
        due("P9 two turned", withTaps(1, 1, 4, -4).about(0, 9), 2);
        due("P9 two others", withTaps(1, 1, 4, 3).about(0, 9), 0);
        due("P9 one between, turned, not 0", withTaps(1, 1, 4, 1, -4).about(0, 9), 0);
        due("P9 one between, turned, 0", withTaps(1, 1, 4, 0, -4).about(0, 9), 2);
        due("P9 the greatest", withTaps(1, 1, 1000000, -1000000).about(0, 9), 2);
        int[] taps = alike(32, 0);
        due("P9 32 of 0", withTaps(1, 1, taps).about(0, 9), 3);
        taps[0] = 5;
        due("P9 32, the first alone", withTaps(1, 1, taps).about(0, 9), 0);
        taps[31] = -5;
        due("P9 32 turned", withTaps(1, 1, taps).about(0, 9), 2);
        taps[31] = 5;
        due("P9 32 alike", withTaps(1, 1, taps).about(0, 9), 1);
        taps[15] = 1;
        due("P9 32, one by the middle", withTaps(1, 1, taps).about(0, 9), 0);
        taps[16] = 1;
        due("P9 32 alike again", withTaps(1, 1, taps).about(0, 9), 1);
        taps[16] = -1;
        due("P9 32, partly alike, partly turned", withTaps(1, 1, taps).about(0, 9), 0);
    }

    /** P9 "BAD" */
    private static void aboutBad() {
        int[] wrongWhat = {-1, 10, MIN, MAX};
        for (int what : wrongWhat) {
            refused("P9 about(0, " + what + ")", StageBoundaries::busy, x -> x.about(0, what), FirChain.BAD);
        }
        int[] wrongStage = {-1, 5, MIN, MAX};
        for (int number : wrongStage) {
            for (int what = -1; what <= 10; what++) {
                due("P9 about(" + number + ", " + what + ")", busy().about(number, what), FirChain.BAD);
            }
        }
    }

    /** P10 "The NORM of COEFFICIENTS", of which 0 is none that is BAD */
    private static void normEnds() {
        due("P10 all 0", withPlan(1, 1, 24, 0, 0).norm(0), 0);
        due("P10 rounded to 0", withPlan(3, 1, 0, 1, -1).norm(0), 0);
        due("P10 sizes, not signs", withPlan(1, 1, 0, 1, -1).norm(0), 2);
        due("P10 the greatest", withPlan(1, 1, 0, alike(32, -32767)).norm(0), 1048544);
        FirChain x = withPlan(1, 1, 3, 1, 2);
        x.planAt(0, 16, 50, 0);
        due("P10 of the PLAN it has now", x.norm(0), 3);
    }

    /** P10 "BAD: also without a PLAN: -2" */
    private static void normBad() {
        int[] wrongStage = {-1, 5, MIN, MAX};
        for (int number : wrongStage) {
            refused("P10 norm(" + number + ")", StageBoundaries::busy, x -> x.norm(number), -2);
        }
        refused("P10 never planned", StageBoundaries::busy, x -> x.norm(3), -2);
        refused("P10 no TAP", StageBoundaries::busy, x -> x.norm(4), -2);
        FirChain x = busy();
        x.tap(0, 1);
        due("P10 no more", x.norm(0), -2);
    }
}
