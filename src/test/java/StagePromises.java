/** Promises 1 to 10: a new object, stages, their taps, ways and plans. */
public final class StagePromises extends Checks {
    public static void main(String[] args) {
        newObject();
        stage();
        tap();
        tapDropsThePlan();
        change();
        changeDropsThePlan();
        way();
        plan();
        planAtTheEdges();
        planRefused();
        planForgets();
        planAt();
        coefficient();
        coefficientOfTwoAsNear();
        about();
        aboutBothEnds();
        norm();
        end("promises 1 to 10");
    }

    private static void newObject() {
        FirChain x = new FirChain();
        for (int what = 0; what <= 3; what++) {
            due("P1 count(" + what + ")", x.count(what), 0);
        }
        due("P1 out(0)", x.out(0), BAD_NUMBER);
        due("P1 about(0, 0)", x.about(0, 0), FirChain.BAD);
        due("P1 part()", x.part(), 0);
        due("P1 empty()", x.empty(), 0);
        due("P1 reset()", x.reset(), 0);
        due("P1 digest()", x.digest(), 43);
        FirChain other = new FirChain();
        x.stage(1, 1);
        x.put(5);
        due("P1 two objects share nothing", other.digest(), 43);
    }

    private static void stage() {
        FirChain x = new FirChain();
        int[] wrongBelow = {0, -1, 1000001, MIN, MAX};
        for (int below : wrongBelow) {
            due("P2 stage(" + below + ", 1)", x.stage(below, 1), FirChain.BAD);
        }
        int[] wrongBy = {0, -1, 5, -5, MIN, MAX};
        for (int by : wrongBy) {
            due("P2 stage(1, " + by + ")", x.stage(1, by), FirChain.BAD);
        }
        due("P2 nothing changed", x.digest(), 43);
        int[] by = {1, 2, 3, 4, -2, -3, -4};
        for (int i = 0; i < by.length; i++) {
            int below = i % 2 == 0 ? 1 : 1000000;
            due("P2 stage(" + below + ", " + by[i] + ")", x.stage(below, by[i]), i);
            due("P2 its BELOW", x.about(i, 1), below);
            due("P2 its BY", x.about(i, 2), by[i]);
            due("P2 its TAPS", x.about(i, 0), 0);
        }
        due("P2 the eighth", x.stage(7, 1), 7);
        long digest = x.digest();
        due("P2 the ninth", x.stage(7, 1), FirChain.FULL);
        due("P2 BAD goes ahead of FULL", x.stage(0, 1), FirChain.BAD);
        due("P2 BAD goes ahead of FULL", x.stage(1, 0), FirChain.BAD);
        due("P2 count(0)", x.count(0), 8);
        due("P2 refused, nothing changed", x.digest(), digest);
    }

    private static void tap() {
        FirChain x = new FirChain();
        due("P3 tap of no stage", x.tap(0, 1), FirChain.BAD);
        x.stage(5, 1);
        int[] wrongStage = {-1, 1, 8, MIN, MAX};
        for (int number : wrongStage) {
            due("P3 tap(" + number + ", 1)", x.tap(number, 1), FirChain.BAD);
        }
        int[] wrongTap = {1000001, -1000001, MIN, MAX};
        for (int t : wrongTap) {
            due("P3 tap(0, " + t + ")", x.tap(0, t), FirChain.BAD);
        }
        due("P3 none yet", x.about(0, 0), 0);
        due("P3 tap(0, 1000000)", x.tap(0, 1000000), 1);
        due("P3 tap(0, -1000000)", x.tap(0, -1000000), 2);
        for (int k = 3; k <= 32; k++) {
            due("P3 tap " + k, x.tap(0, k), k);
        }
        due("P3 the 33rd", x.tap(0, 1), FirChain.FULL);
        due("P3 BAD goes ahead of FULL", x.tap(0, 1000001), FirChain.BAD);
        due("P3 still 32", x.about(0, 0), 32);
        due("P3 the last one is what it was", x.change(0, 31, 0), 32);
    }

    private static void tapDropsThePlan() {
        FirChain x = withTaps(1, 1, 1);
        addStage(x, 1, 1, 1);
        x.plan(0, 8, 30);
        x.plan(1, 8, 30);
        x.join(0);
        x.join(1);
        x.put(3);
        due("P3 BAD", x.tap(0, 1000001), FirChain.BAD);
        due("P3 a refused tap leaves the plan", x.about(0, 5), 6);
        due("P3 tap(0, 0)", x.tap(0, 0), 2);
        due("P3 its shift goes", x.about(0, 5), FirChain.NONE);
        due("P3 its bits go", x.about(0, 6), FirChain.NONE);
        due("P3 its word goes", x.about(0, 7), FirChain.NONE);
        due("P3 it goes from the chain", x.about(0, 8), FirChain.NONE);
        due("P3 those behind it move up", x.about(1, 8), 0);
        due("P3 count(1)", x.count(1), 1);
        due("P3 the other plan stays", x.about(1, 5), 6);
        due("P3 what came in counts no more", x.counted(0, 0), 0);
        due("P3 no output is told", x.told(0, 0), 0);
        due("P3 no output is near", x.near(0), FirChain.NO);

        int[] taps = new int[32];
        FirChain full = withTaps(1, 1, taps);
        full.plan(0, 8, 30);
        full.join(0);
        due("P3 FULL", full.tap(0, 1), FirChain.FULL);
        due("P3 FULL leaves the plan", full.about(0, 5), 24);
        due("P3 FULL leaves the chain", full.about(0, 8), 0);
    }

    private static void change() {
        FirChain x = withTaps(5, 1, 10, 20, 30);
        due("P4 change(0, 1, -7)", x.change(0, 1, -7), 20);
        due("P4 change(0, 1, 1000000)", x.change(0, 1, 1000000), -7);
        due("P4 change(0, 1, -1000000)", x.change(0, 1, -1000000), 1000000);
        due("P4 change(0, 0, 0)", x.change(0, 0, 0), 10);
        due("P4 change(0, 2, 0)", x.change(0, 2, 0), 30);
        long digest = x.digest();
        int[] wrongTap = {-1, 3, 31, 32, MIN, MAX};
        for (int k : wrongTap) {
            due("P4 change(0, " + k + ", 1)", x.change(0, k, 1), BAD_NUMBER);
        }
        int[] wrongNumber = {1000001, -1000001, MIN, MAX};
        for (int t : wrongNumber) {
            due("P4 change(0, 0, " + t + ")", x.change(0, 0, t), BAD_NUMBER);
        }
        int[] wrongStage = {-1, 1, MIN, MAX};
        for (int number : wrongStage) {
            due("P4 change(" + number + ", 0, 1)", x.change(number, 0, 1), BAD_NUMBER);
        }
        due("P4 nothing changed", x.digest(), digest);
    }

    private static void changeDropsThePlan() {
        FirChain x = new FirChain();
        for (int i = 0; i < 3; i++) {
            addStage(x, 1, 1, 1);
            x.plan(i, 8, 30);
            x.join(i);
        }
        x.put(9);
        due("P4 BAD", x.change(1, 1, 1), BAD_NUMBER);
        due("P4 a refused change leaves the plan", x.about(1, 5), 6);
        due("P4 a refused change leaves the chain", x.about(1, 8), 1);
        due("P4 change to what it was", x.change(1, 0, 1), 1);
        due("P4 its plan goes", x.about(1, 5), FirChain.NONE);
        due("P4 it goes from the chain", x.about(1, 8), FirChain.NONE);
        due("P4 the one ahead stays", x.about(0, 8), 0);
        due("P4 the one behind moves up", x.about(2, 8), 1);
        due("P4 count(1)", x.count(1), 2);
        due("P4 no coefficient", x.coefficient(1, 0), BAD_NUMBER);
        due("P4 no norm", x.norm(1), FirChain.BAD);
    }

    private static void way() {
        FirChain x = withTaps(1, 1, 1);
        x.plan(0, 8, 30);
        x.join(0);
        due("P5 at first 0", x.about(0, 3), 0);
        due("P5 at first it does not wrap", x.about(0, 4), 0);
        due("P5 way(0, 3, true)", x.way(0, 3, true), 0);
        due("P5 the way", x.about(0, 3), 3);
        due("P5 it wraps", x.about(0, 4), 1);
        int[] wrongWay = {-1, 4, MIN, MAX};
        for (int way : wrongWay) {
            due("P5 way(0, " + way + ", false)", x.way(0, way, false), FirChain.BAD);
        }
        int[] wrongStage = {-1, 1, MIN, MAX};
        for (int number : wrongStage) {
            due("P5 way(" + number + ", 0, false)", x.way(number, 0, false), FirChain.BAD);
        }
        due("P5 refused, the way stays", x.about(0, 3), 3);
        due("P5 refused, it still wraps", x.about(0, 4), 1);
        due("P5 way(0, 1, false)", x.way(0, 1, false), 3);
        due("P5 it wraps no more", x.about(0, 4), 0);
        due("P5 way(0, 2, false)", x.way(0, 2, false), 1);
        due("P5 way(0, 0, false)", x.way(0, 0, false), 2);
        due("P5 the plan stays", x.about(0, 5), 6);
        due("P5 it stays in the chain", x.about(0, 8), 0);
    }

    private static void plan() {
        FirChain x = withTaps(4, 1, 1, 2, 1);
        due("P6 by bits", x.plan(0, 8, 30), 7);
        due("P6 shift", x.about(0, 5), 7);
        due("P6 bits", x.about(0, 6), 8);
        due("P6 word", x.about(0, 7), 30);
        due("P6 by the word", x.plan(0, 16, 20), 3);
        due("P6 norm", x.norm(0), 8);
        due("P6 about(0, 6)", x.about(0, 6), 16);
        due("P6 about(0, 7)", x.about(0, 7), 20);
        due("P6 all 0", withTaps(7, 1, 0, 0).plan(0, 4, 18), 24);
        due("P6 the smallest tap", withTaps(1000000, 1, 1).plan(0, 16, 50), 24);
        due("P6 the smallest tap, few bits", withTaps(1000000, 1, 1).plan(0, 4, 50), 22);
        due("P6 a third, three times over", withTaps(3, -3, 1).plan(0, 16, 50), 16);
    }

    private static void planAtTheEdges() {
        due("P6 7 in 4 bits", withTaps(1, 1, 7).plan(0, 4, 50), 0);
        due("P6 8 in 4 bits", withTaps(1, 1, 8).plan(0, 4, 50), FirChain.NO);
        due("P6 -7 in 4 bits", withTaps(1, 1, -7).plan(0, 4, 50), 0);
        due("P6 -8 in 4 bits", withTaps(1, 1, -8).plan(0, 4, 50), FirChain.NO);
        due("P6 7 of 5 bits, as far", withTaps(1, 1, 7).plan(0, 5, 50), 1);
        due("P6 32767 in 16 bits", withTaps(1, 1, 32767).plan(0, 16, 50), 0);
        due("P6 32768 in 16 bits", withTaps(1, 1, -32768).plan(0, 16, 50), FirChain.NO);
        due("P6 norm 3 in 18", withTaps(1, 1, 2, -1).plan(0, 16, 18), 0);
        due("P6 norm 4 in 18", withTaps(1, 1, 2, -2).plan(0, 16, 18), FirChain.NO);
        due("P6 norm 4 in 19", withTaps(1, 1, 2, -2).plan(0, 16, 19), 0);
        due("P6 norm 2 in 18", withTaps(1, 1, 1).plan(0, 16, 18), 1);
        int[] greatest = new int[32];
        java.util.Arrays.fill(greatest, 1000000);
        due("P6 taps so great that sums of sizes pass a long",
                withTaps(1, 1, greatest).plan(0, 16, 50), FirChain.NO);
        due("P6 32 taps of 1", withTaps(1000000, 1, greatest).plan(0, 16, 50), 14);
        due("P6 32 taps of 1 in 36", withTaps(1000000, 1, greatest).plan(0, 16, 36), 14);
        due("P6 32 taps of 1 in 35", withTaps(1000000, 1, greatest).plan(0, 16, 35), 13);
    }

    private static void planRefused() {
        FirChain x = new FirChain();
        due("P6 plan of no stage", x.plan(0, 8, 30), FirChain.BAD);
        x.stage(1, 1);
        due("P6 no tap", x.plan(0, 8, 30), FirChain.NO);
        int[] wrongBits = {3, 17, 0, MIN, MAX};
        for (int bits : wrongBits) {
            due("P6 plan(0, " + bits + ", 30)", x.plan(0, bits, 30), FirChain.BAD);
        }
        int[] wrongWord = {17, 51, 0, MIN, MAX};
        for (int word : wrongWord) {
            due("P6 plan(0, 8, " + word + ")", x.plan(0, 8, word), FirChain.BAD);
        }
        due("P6 plan(-1, 8, 30)", x.plan(-1, 8, 30), FirChain.BAD);
        due("P6 plan(1, 8, 30)", x.plan(1, 8, 30), FirChain.BAD);
        x.tap(0, 4);
        due("P6 plan(0, 4, 19)", x.plan(0, 4, 19), 0);
        x.join(0);
        x.put(5);
        long digest = x.digest();
        due("P6 plan(0, 4, 18)", x.plan(0, 4, 18), FirChain.NO);
        due("P6 the plan that it had stays", x.digest(), digest);
        due("P6 what was told stays", x.told(0, 0), 20);
    }

    private static void planForgets() {
        FirChain x = withTaps(1, 1, 1, 1);
        x.planAt(0, 8, 30, 0);
        x.join(0);
        x.put(100);
        due("P6 plan(0, 8, 30)", x.plan(0, 8, 30), 6);
        due("P6 it stays in the chain", x.about(0, 8), 0);
        due("P6 nothing came in since", x.counted(0, 0), 0);
        due("P6 no sum since", x.counted(0, 2), 0);
        due("P6 nothing is told since", x.told(0, 0), 0);
        due("P6 nothing is near since", x.near(0), FirChain.NO);
        x.put(1);
        due("P6 what came in is forgotten", x.out(1), 1);

        FirChain thin = withTaps(1, 2, 1);
        thin.plan(0, 8, 30);
        thin.join(0);
        due("P6 the first one comes out", thin.put(1), 1);
        thin.plan(0, 8, 30);
        due("P6 thinning begins with the plan", thin.put(2), 1);
        due("P6 and goes on", thin.put(3), 0);
    }

    private static void planAt() {
        FirChain x = withTaps(4, 1, 1, 2, 1);
        due("P7 shift 7", x.planAt(0, 8, 30, 7), 7);
        due("P7 its bits", x.about(0, 6), 8);
        due("P7 its word", x.about(0, 7), 30);
        due("P7 shift 8", x.planAt(0, 8, 30, 8), FirChain.NO);
        due("P7 refused, the shift stays", x.about(0, 5), 7);
        due("P7 refused, the coefficients stay", x.coefficient(0, 1), 64);
        due("P7 shift 0", x.planAt(0, 8, 30, 0), 0);
        due("P7 coefficient 0", x.coefficient(0, 0), 0);
        due("P7 norm", x.norm(0), 0);
        due("P7 the word counts", x.planAt(0, 16, 20, 4), FirChain.NO);
        due("P7 the word suffices", x.planAt(0, 16, 20, 3), 3);
        int[] wrongShift = {-1, 25, MIN, MAX};
        for (int shift : wrongShift) {
            due("P7 planAt(0, 8, 30, " + shift + ")", x.planAt(0, 8, 30, shift), FirChain.BAD);
        }
        int[] wrongBits = {3, 17, MIN, MAX};
        for (int bits : wrongBits) {
            due("P7 planAt(0, " + bits + ", 30, 0)", x.planAt(0, bits, 30, 0), FirChain.BAD);
        }
        int[] wrongWord = {17, 51, MIN, MAX};
        for (int word : wrongWord) {
            due("P7 planAt(0, 8, " + word + ", 0)", x.planAt(0, 8, word, 0), FirChain.BAD);
        }
        due("P7 planAt(-1, 8, 30, 0)", x.planAt(-1, 8, 30, 0), FirChain.BAD);
        due("P7 planAt(1, 8, 30, 0)", x.planAt(1, 8, 30, 0), FirChain.BAD);
        due("P7 shift 24", withTaps(1000000, 1, 1).planAt(0, 16, 50, 24), 24);
        FirChain none = withTaps(1, 1);
        due("P7 no tap", none.planAt(0, 8, 30, 0), FirChain.NO);
        due("P7 BAD goes ahead of NO", none.planAt(0, 8, 30, 25), FirChain.BAD);
        x.join(0);
        x.put(1000);
        x.planAt(0, 8, 30, 7);
        due("P7 it stays in the chain", x.about(0, 8), 0);
        due("P7 nothing came in since", x.counted(0, 0), 0);
        due("P7 nothing is told since", x.told(0, 2), 0);
    }

    private static void coefficient() {
        FirChain x = withTaps(3, 1, 1, -2, 0, 3);
        due("P8 without a plan", x.coefficient(0, 0), BAD_NUMBER);
        x.planAt(0, 16, 50, 10);
        int[] due = {341, -683, 0, 1024};
        for (int k = 0; k < due.length; k++) {
            due("P8 coefficient(0, " + k + ")", x.coefficient(0, k), due[k]);
        }
        int[] wrongTap = {-1, 4, 31, 32, MIN, MAX};
        for (int k : wrongTap) {
            due("P8 coefficient(0, " + k + ")", x.coefficient(0, k), BAD_NUMBER);
        }
        int[] wrongStage = {-1, 1, MIN, MAX};
        for (int number : wrongStage) {
            due("P8 coefficient(" + number + ", 0)", x.coefficient(number, 0), BAD_NUMBER);
        }
        FirChain small = withTaps(1000000, 1, 1, -1);
        small.plan(0, 16, 50);
        due("P8 the smallest tap", small.coefficient(0, 0), 17);
        due("P8 the smallest tap, below 0", small.coefficient(0, 1), -17);
    }

    private static void coefficientOfTwoAsNear() {
        int[] taps = {1, 3, 5, 7, -1, -3, -5, -7};
        int[] due = {0, 2, 2, 4, 0, -2, -2, -4};
        FirChain x = withTaps(2, 1, taps);
        x.planAt(0, 8, 30, 0);
        for (int k = 0; k < due.length; k++) {
            due("P8 the even one of " + taps[k] + " by 2", x.coefficient(0, k), due[k]);
        }
        int[] quarters = {1, 2, 3, 5, 6, 7, -1, -2, -3, -5, -6, -7};
        int[] nearest = {0, 0, 1, 1, 2, 2, 0, 0, -1, -1, -2, -2};
        FirChain y = withTaps(4, 1, quarters);
        y.planAt(0, 8, 30, 0);
        for (int k = 0; k < nearest.length; k++) {
            due("P8 the nearest of " + quarters[k] + " by 4", y.coefficient(0, k), nearest[k]);
        }
    }

    private static void about() {
        FirChain x = new FirChain();
        addStage(x, 9, -3, 4, 5);
        addStage(x, 8, 2, 1);
        long[] due = {2, 9, -3, 0, 0, -1, -1, -1, -1, 0};
        for (int what = 0; what < due.length; what++) {
            due("P9 about(0, " + what + ")", x.about(0, what), due[what]);
        }
        x.way(0, 2, true);
        x.planAt(0, 9, 33, 4);
        x.planAt(1, 4, 18, 0);
        x.join(1);
        x.join(0);
        long[] then = {2, 9, -3, 2, 1, 4, 9, 33, 1, 0};
        for (int what = 0; what < then.length; what++) {
            due("P9 then about(0, " + what + ")", x.about(0, what), then[what]);
        }
        due("P9 about(1, 8)", x.about(1, 8), 0);
        int[] wrongWhat = {-1, 10, MIN, MAX};
        for (int what : wrongWhat) {
            due("P9 about(0, " + what + ")", x.about(0, what), FirChain.BAD);
        }
        int[] wrongStage = {-1, 2, 8, MIN, MAX};
        for (int number : wrongStage) {
            due("P9 about(" + number + ", 0)", x.about(number, 0), FirChain.BAD);
        }
    }

    private static void aboutBothEnds() {
        due("P9 no tap", withTaps(1, 1).about(0, 9), 3);
        due("P9 0", withTaps(1, 1, 0).about(0, 9), 3);
        due("P9 0 0", withTaps(1, 1, 0, 0).about(0, 9), 3);
        due("P9 5", withTaps(1, 1, 5).about(0, 9), 1);
        due("P9 1 2 1", withTaps(1, 1, 1, 2, 1).about(0, 9), 1);
        due("P9 1 2 2 1", withTaps(1, 1, 1, 2, 2, 1).about(0, 9), 1);
        due("P9 1 -1", withTaps(1, 1, 1, -1).about(0, 9), 2);
        due("P9 1 0 -1", withTaps(1, 1, 1, 0, -1).about(0, 9), 2);
        due("P9 1 3 -1", withTaps(1, 1, 1, 3, -1).about(0, 9), 0);
        due("P9 1 2 -2 1", withTaps(1, 1, 1, 2, -2, 1).about(0, 9), 0);
        due("P9 1 2", withTaps(1, 1, 1, 2).about(0, 9), 0);
        due("P9 0 1", withTaps(1, 1, 0, 1).about(0, 9), 0);
    }

    private static void norm() {
        FirChain x = withTaps(1, 1, 3, -4, 0, 5);
        due("P10 without a plan", x.norm(0), FirChain.BAD);
        x.planAt(0, 16, 50, 0);
        due("P10 shift 0", x.norm(0), 12);
        x.planAt(0, 16, 50, 3);
        due("P10 shift 3", x.norm(0), 96);
        int[] wrongStage = {-1, 1, MIN, MAX};
        for (int number : wrongStage) {
            due("P10 norm(" + number + ")", x.norm(number), FirChain.BAD);
        }
        x.tap(0, 1);
        due("P10 the plan is gone", x.norm(0), FirChain.BAD);
        int[] greatest = new int[32];
        java.util.Arrays.fill(greatest, -32767);
        FirChain y = withTaps(1, 1, greatest);
        y.plan(0, 16, 50);
        due("P10 the greatest", y.norm(0), 32 * 32767);
    }
}
