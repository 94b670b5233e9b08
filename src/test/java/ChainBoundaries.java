/** The boundary cases that promises 11 to 23 name, a test for each sentence. */
public final class ChainBoundaries extends Checks {
    public static void main(String[] args) {
        joinPlaces();
        joinBad();
        joinHasNoPlan();
        joinIsInIt();
        joinFillsTooMuch();
        joinFillsJustEnough();
        joinOfThoseThatDoNotFill();
        partOfNone();
        partOfEight();
        putHowMany();
        putCountsThoseLost();
        putBad();
        rampOfOneAndOf64();
        rampGoesPastTheEnds();
        rampByFarSteps();
        rampCountsThoseLost();
        rampBad();
        outEnds();
        outNoneSuch();
        emptyOfNone();
        emptyOf600();
        resetOfNone();
        resetOfAll();
        resetBeginsThinningAnew();
        throughInTheChainOrNot();
        throughBad();
        throughNoPlan();
        throughNotPlain();
        toldOfOneThinned();
        toldEnds();
        toldNoneSinceThePlan();
        toldBad();
        nearAtTheBound();
        nearByTheWayOfThen();
        nearBad();
        nearNone();
        countedFromThePlan();
        countedFromReset();
        countedHeldOrWrapped();
        countedGreatestSum();
        countedWithoutAPlan();
        countedBad();
        countEnds();
        countLostEver();
        countBad();
        digestOfNothing();
        digestOfTaps();
        digestWithAPlan();
        digestOfAFullTape();
        end("the boundaries of promises 11 to 23");
    }

    /** Stages of each kind, planned or not, in the chain or not, with samples in them. */
    private static FirChain busy() {
        FirChain x = new FirChain();
        addPlanned(x, 3, 1, 4, 1, -2, 5);
        addPlanned(x, 1, 3, 0, 1, 1);
        addPlanned(x, 1, -2, 1, 2, 1, 7);
        addStage(x, 5, 1, 1, 1000000);
        x.stage(9, 1);
        x.join(0);
        x.join(1);
        x.way(0, 2, true);
        x.ramp(30000, 777, 5);
        x.through(0, -5);
        return x;
    }

    /** An object whose tape has 0, 1, 2 and so on up to 599. */
    private static FirChain withFullTape() {
        FirChain x = new FirChain();
        for (int i = 0; i < 10; i++) {
            due("set up", x.ramp(60 * i, 1, 60), 60);
        }
        return x;
    }

    /** Planned stages with one tap of 1 that go by these numbers. */
    private static FirChain withBys(int... bys) {
        FirChain x = new FirChain();
        for (int by : bys) {
            addPlanned(x, 1, by, 0, 1);
        }
        return x;
    }

    /** P11 "the last one: its place" */
    private static void joinPlaces() {
        FirChain x = withBys(1, 1, 1, 1, 1, 1, 1, 1);
        int[] order = {7, 0, 6, 1, 5, 2, 4, 3};
        for (int place = 0; place < 8; place++) {
            due("P11 place", x.join(order[place]), place);
        }
        for (int place = 0; place < 8; place++) {
            due("P11 its place stays", x.about(order[place], 8), place);
        }
    }

    /** P11 "BAD" */
    private static void joinBad() {
        int[] wrongStage = {-1, 5, 8, MIN, MAX};
        for (int number : wrongStage) {
            refused("P11 join(" + number + ")", ChainBoundaries::busy, x -> x.join(number), FirChain.BAD);
        }
        due("P11 there is no stage", new FirChain().join(0), FirChain.BAD);
    }

    /** P11 "NO: it has no PLAN" */
    private static void joinHasNoPlan() {
        refused("P11 never planned", ChainBoundaries::busy, x -> x.join(3), FirChain.NO);
        refused("P11 no TAP", ChainBoundaries::busy, x -> x.join(4), FirChain.NO);
        FirChain x = busy();
        x.change(2, 0, 2);
        due("P11 no more", x.join(2), FirChain.NO);
        x.plan(2, 16, 50);
        due("P11 again", x.join(2), 2);
    }

    /** P11 "or is in it" */
    private static void joinIsInIt() {
        refused("P11 the first", ChainBoundaries::busy, x -> x.join(0), FirChain.NO);
        refused("P11 the last", ChainBoundaries::busy, x -> x.join(1), FirChain.NO);
        FirChain x = busy();
        x.planAt(0, 16, 50, 0);
        due("P11 in it with another PLAN", x.join(0), FirChain.NO);
        x.part();
        due("P11 not in it", x.join(0), 0);
    }

    /** P11 "or the sizes of BY of those that FILL would make more than 16 by one another, with it" */
    private static void joinFillsTooMuch() {
        int[][] bys = {{-4, -4, -2}, {-3, -3, -2}, {-3, -2, -3}, {-2, -3, -3}, {-4, -3, -2}, {-3, -3, -3},
            {-2, -2, -2, -2, -2}, {-2, -2, -2, -3}, {-4, -2, 1, 4, -3}, {-4, 4, -4, 4, -2}};
        for (int[] row : bys) {
            String name = "P11 " + java.util.Arrays.toString(row);
            int last = row.length - 1;
            java.util.function.Supplier<FirChain> maker = () -> {
                FirChain x = withBys(row);
                for (int number = 0; number < last; number++) {
                    due(name + " so far", x.join(number), number);
                }
                return x;
            };
            refused(name, maker, x -> x.join(last), FirChain.NO);
        }
    }

    private static void joinFillsJustEnough() {
        int[][] bys = {{-4, -4}, {-2, -2, -2, -2}, {-4, -2, -2}, {-2, -4, -2}, {-3, -4}, {-3, -3}, {-2, -2, -3},
            {-4, 1, -4, 1, 2}, {4, -4, 3, -4}};
        for (int[] row : bys) {
            String name = "P11 " + java.util.Arrays.toString(row);
            FirChain x = withBys(row);
            int each = 1;
            for (int number = 0; number < row.length; number++) {
                due(name, x.join(number), number);
                each *= row[number] < 0 ? -row[number] : 1;
            }
            boolean thins = false;
            for (int by : row) {
                thins = thins || by > 1;
            }
            if (!thins) {
                due(name + ", what comes of one", x.put(1), each);
            }
        }
    }

    /** P11 "of those that FILL": what THINS counts neither for nor against */
    private static void joinOfThoseThatDoNotFill() {
        FirChain x = withBys(4, 4, 4, 4, -4, -4, 1, -2);
        for (int number = 0; number < 7; number++) {
            due("P11 join(" + number + ")", x.join(number), number);
        }
        due("P11 32", x.join(7), FirChain.NO);
        x.change(4, 0, 1);
        due("P11 8, once one that FILLS has gone", x.join(7), 6);
    }

    /** P12 "how many STAGES it had": none */
    private static void partOfNone() {
        refused("P12 a new one", FirChain::new, x -> x.part(), 0);
        FirChain x = busy();
        due("P12 two", x.part(), 2);
        due("P12 none then", x.part(), 0);
    }

    private static void partOfEight() {
        FirChain x = withBys(1, 1, 1, 1, 1, 1, 1, 1);
        for (int number = 0; number < 8; number++) {
            x.join(number);
        }
        x.put(9);
        due("P12 eight", x.part(), 8);
        due("P12 THE CHAIN is empty", x.count(1), 0);
        for (int number = 0; number < 8; number++) {
            due("P12 not in it", x.about(number, 8), FirChain.NONE);
            due("P12 its PLAN stays", x.about(number, 5), 0);
            due("P12 what came in stays", x.counted(number, 0), 1);
        }
        due("P12 the tape stays", x.count(2), 1);
        due("P12 from the first on again", x.join(3), 0);
    }

    /** P13 "how many come to THE TAPE": from none to 16 */
    private static void putHowMany() {
        FirChain x = withBys(4, -4, -4);
        x.join(0);
        due("P13 the first of four", x.put(1), 1);
        due("P13 none", x.put(1), 0);
        due("P13 none", x.put(1), 0);
        due("P13 none", x.put(1), 0);
        due("P13 the first of four again", x.put(1), 1);
        x.part();
        x.join(1);
        x.join(2);
        due("P13 16", x.put(1), 16);
        due("P13 all of them", x.count(2), 18);
        x.join(0);
        due("P13 16, of which each fourth comes out", x.put(1), 4);
        FirChain none = withBys(2, -4);
        none.join(0);
        none.join(1);
        due("P13 four behind one that comes out", none.put(1), 4);
        due("P13 none behind one that does not", none.put(1), 0);
        due("P13 nothing came in there", none.counted(1, 0), 4);
    }

    /** P13 "(also those that are lost)" */
    private static void putCountsThoseLost() {
        FirChain x = withFullTape();
        due("P13 one that is lost", x.put(-7), 1);
        addPlanned(x, 1, -4, 0, 1);
        x.join(0);
        due("P13 four that are lost", x.put(-7), 4);
        due("P13 lost", x.count(3), 5);
        due("P13 they came in all the same", x.counted(0, 0), 4);
        due("P13 the tape is as it was", x.out(599), 599);
    }

    /** P13 "BAD" */
    private static void putBad() {
        int[] wrongSample = {-32769, 32768, 65535, -65536, MIN, MAX};
        for (int sample : wrongSample) {
            refused("P13 put(" + sample + ")", ChainBoundaries::busy, x -> x.put(sample), FirChain.BAD);
            refused("P13 full, put(" + sample + ")", ChainBoundaries::withFullTape, x -> x.put(sample), FirChain.BAD);
        }
    }

    /** P14 "n SAMPLES (1 .. 64)" */
    private static void rampOfOneAndOf64() {
        FirChain x = new FirChain();
        due("P14 one", x.ramp(-5, 1, 1), 1);
        dueOnTape("P14 one", x, -5);
        due("P14 64", x.ramp(10, 2, 64), 64);
        due("P14 the first of 64", x.out(1), 10);
        due("P14 the last of 64", x.out(64), 136);
        due("P14 in all", x.count(2), 65);
    }

    /** P14 "its lowest 16 bits with sign" */
    private static void rampGoesPastTheEnds() {
        FirChain x = new FirChain();
        x.ramp(32766, 1, 4);
        dueOnTape("P14 up", x, 32766, 32767, -32768, -32767);
        x.empty();
        x.ramp(-32767, -1, 4);
        dueOnTape("P14 down", x, -32767, -32768, 32767, 32766);
        x.empty();
        x.ramp(32767, 32767, 4);
        dueOnTape("P14 by the greatest sample", x, 32767, -2, 32765, -4);
        x.empty();
        x.ramp(-32768, -32768, 4);
        dueOnTape("P14 by the least sample", x, -32768, 0, -32768, 0);
    }

    /** P14 "each s more than the one ahead", of which no end is told */
    private static void rampByFarSteps() {
        FirChain x = new FirChain();
        x.ramp(5, 0, 3);
        dueOnTape("P14 by 0", x, 5, 5, 5);
        x.empty();
        x.ramp(5, 32768, 3);
        dueOnTape("P14 by 32768", x, 5, -32763, 5);
        x.empty();
        x.ramp(5, 65536, 3);
        dueOnTape("P14 by 65536", x, 5, 5, 5);
        x.empty();
        x.ramp(32767, MAX, 4);
        dueOnTape("P14 by the greatest int", x, 32767, 32766, 32765, 32764);
        x.empty();
        x.ramp(-32768, MIN, 3);
        dueOnTape("P14 by the least int", x, -32768, -32768, -32768);
        x.empty();
        x.ramp(-32768, MIN + 1, 4);
        dueOnTape("P14 by the least int but one", x, -32768, -32767, -32766, -32765);
    }

    /** P14 "How many come to THE TAPE", with those that are lost, and none */
    private static void rampCountsThoseLost() {
        FirChain x = withFullTape();
        due("P14 64 that are lost", x.ramp(1, 1, 64), 64);
        due("P14 lost", x.count(3), 64);
        FirChain most = withBys(-4, -4, 4);
        most.join(0);
        most.join(1);
        due("P14 16 for each of 64", most.ramp(1, 1, 64), 1024);
        due("P14 of them on the tape", most.count(2), 600);
        due("P14 of them lost", most.count(3), 424);
        FirChain thin = withBys(4);
        thin.join(0);
        due("P14 17 of 65, the first", thin.ramp(1, 1, 1), 1);
        due("P14 none of three", thin.ramp(2, 1, 3), 0);
        due("P14 16 of 64", thin.ramp(5, 1, 64), 16);
    }

    /** P14 "BAD: also v" */
    private static void rampBad() {
        int[] wrongSample = {-32769, 32768, MIN, MAX};
        for (int v : wrongSample) {
            refused("P14 ramp(" + v + ", 1, 2)", ChainBoundaries::busy, x -> x.ramp(v, 1, 2), FirChain.BAD);
        }
        int[] wrongCount = {0, -1, 65, MIN, MAX};
        for (int n : wrongCount) {
            refused("P14 ramp(1, 1, " + n + ")", ChainBoundaries::busy, x -> x.ramp(1, 1, n), FirChain.BAD);
        }
    }

    /** P15 "SAMPLE i of THE TAPE" */
    private static void outEnds() {
        FirChain x = withFullTape();
        due("P15 the first", x.out(0), 0);
        due("P15 the second", x.out(1), 1);
        due("P15 the last but one", x.out(598), 598);
        due("P15 the last", x.out(599), 599);
        FirChain ends = new FirChain();
        ends.put(-32768);
        ends.put(32767);
        due("P15 the least", ends.out(0), -32768);
        due("P15 the greatest", ends.out(1), 32767);
    }

    /** P15 "BAD: 2000000000: there is none such" */
    private static void outNoneSuch() {
        int[] wrongPlace = {-1, -600, 600, 601, MIN, MAX};
        for (int i : wrongPlace) {
            refused("P15 out(" + i + ")", ChainBoundaries::withFullTape, x -> x.out(i), BAD_NUMBER);
        }
        FirChain x = new FirChain();
        due("P15 empty", x.out(0), BAD_NUMBER);
        x.put(6);
        due("P15 behind the only one", x.out(1), BAD_NUMBER);
        x.empty();
        due("P15 emptied", x.out(0), BAD_NUMBER);
        FirChain full = withFullTape();
        full.empty();
        full.put(3);
        due("P15 what was there once", full.out(1), BAD_NUMBER);
    }

    /** P16 "how many it had": none */
    private static void emptyOfNone() {
        refused("P16 a new one", FirChain::new, x -> x.empty(), 0);
        FirChain x = busy();
        due("P16 those that came out", x.empty(), 2);
        due("P16 none then", x.empty(), 0);
    }

    /** P16 "THE TAPE becomes empty", and there is room for 600 again */
    private static void emptyOf600() {
        FirChain x = withFullTape();
        x.put(1);
        due("P16 600", x.empty(), 600);
        due("P16 empty", x.count(2), 0);
        for (int i = 0; i < 10; i++) {
            x.ramp(7, 0, 60);
        }
        due("P16 600 again", x.count(2), 600);
        due("P16 none of them lost", x.count(3), 1);
        due("P16 the last one", x.out(599), 7);
        x.put(1);
        due("P16 one more is lost", x.count(3), 2);
    }

    /** P17 "how many STAGES there are": none, and eight, with PLANS or without */
    private static void resetOfNone() {
        refused("P17 a new one", FirChain::new, x -> x.reset(), 0);
        FirChain x = new FirChain();
        for (int count = 1; count <= 8; count++) {
            x.stage(1, 1);
            due("P17 how many", x.reset(), count);
        }
    }

    /** P17 "All STAGES forget what came in": and nothing else does */
    private static void resetOfAll() {
        FirChain x = withBys(1, 1, 1, 1, 1, 1, 1, 1);
        for (int number = 0; number < 8; number++) {
            x.tap(number, 1);
            x.planAt(number, 16, 50, 0);
        }
        for (int number = 0; number < 8; number += 2) {
            x.join(number);
        }
        x.way(3, 2, true);
        for (int number = 0; number < 8; number++) {
            x.through(number, 1000);
        }
        x.put(5);
        due("P17 eight", x.reset(), 8);
        due("P17 the chain stays", x.count(1), 4);
        due("P17 the tape stays", x.count(2), 1);
        due("P17 the WAY stays", x.about(3, 3), 2);
        due("P17 WRAPS stays", x.about(3, 4), 1);
        for (int number = 0; number < 8; number++) {
            due("P17 the PLAN stays", x.about(number, 5), 0);
            due("P17 forgotten", x.through(number, 1), 1);
        }
    }

    /** P17 "those that THIN begin anew": from wherever they are */
    private static void resetBeginsThinningAnew() {
        for (int by = 2; by <= 4; by++) {
            for (int sofar = 0; sofar <= by; sofar++) {
                FirChain x = withBys(by);
                x.join(0);
                for (int i = 0; i < sofar; i++) {
                    x.put(1);
                }
                x.reset();
                for (int i = 0; i <= by; i++) {
                    due("P17 BY " + by + " after " + sofar, x.put(1), i % by == 0 ? 1 : 0);
                }
            }
        }
        FirChain out = withBys(2);
        out.join(0);
        out.put(1);
        out.part();
        out.reset();
        out.join(0);
        due("P17 out of THE CHAIN, too", out.put(1), 1);
        FirChain stays = withBys(2);
        stays.join(0);
        stays.put(1);
        stays.part();
        stays.join(0);
        due("P17 by part() and join() it does not", stays.put(1), 0);
    }

    /** P18 "if it is PLAIN, in THE CHAIN or not (it counts as what came in): its output" */
    private static void throughInTheChainOrNot() {
        FirChain x = withPlan(1, 1, 0, 1, 10);
        addPlanned(x, 1, 1, 0, 1, 1);
        x.join(0);
        x.join(1);
        due("P18 in the chain", x.through(0, 3), 3);
        due("P18 the next one gets nothing", x.counted(1, 0), 0);
        due("P18 the tape gets nothing", x.count(2), 0);
        x.put(4);
        due("P18 it counts as what came in", x.out(0), 34);
        x.part();
        due("P18 out of it", x.through(0, 5), 45);
        due("P18 what came in", x.counted(0, 0), 3);
        FirChain full = withFullTape();
        addPlanned(full, 1, 1, 0, 1);
        full.through(0, 6);
        due("P18 none is lost", full.count(3), 0);
    }

    /** P18 "BAD: 2000000000" */
    private static void throughBad() {
        int[] wrongSample = {-32769, 32768, MIN, MAX};
        for (int sample : wrongSample) {
            for (int number = 0; number < 5; number++) {
                int stage = number;
                refused("P18 through(" + stage + ", " + sample + ")", ChainBoundaries::busy,
                        x -> x.through(stage, sample), 2000000000);
            }
        }
        int[] wrongStage = {-1, 5, MIN, MAX};
        for (int number : wrongStage) {
            refused("P18 through(" + number + ", 1)", ChainBoundaries::busy, x -> x.through(number, 1), 2000000000);
        }
    }

    /** P18 "NO: 2000000001: it has no PLAN" */
    private static void throughNoPlan() {
        refused("P18 never planned", ChainBoundaries::busy, x -> x.through(3, 1), 2000000001);
        refused("P18 no TAP", ChainBoundaries::busy, x -> x.through(4, 1), 2000000001);
        FirChain x = busy();
        x.change(0, 0, 1);
        due("P18 no more", x.through(0, 1), 2000000001);
    }

    /** P18 "or is not PLAIN" */
    private static void throughNotPlain() {
        int[] bys = {2, 3, 4, -2, -3, -4};
        for (int by : bys) {
            refused("P18 BY " + by, () -> withBys(by), x -> x.through(0, 1), 2000000001);
        }
        refused("P18 THINS, in the chain", ChainBoundaries::busy, x -> x.through(1, 1), 2000000001);
    }

    /** P19 "the latest output of a STAGE (whether it came out, or was thinned)" */
    private static void toldOfOneThinned() {
        FirChain x = withPlan(2, 4, 1, 3);
        x.join(0);
        for (int i = 0; i < 9; i++) {
            x.put(30 + i);
            due("P19 THE SUM, " + i, x.told(0, 0), 3 * (30 + i));
            due("P19 ROUNDED, " + i, x.told(0, 1), 3 * (30 + i) / 2);
            due("P19 the output, " + i, x.told(0, 2), 3 * (30 + i) / 2);
            due("P19 THE EXACT one, " + i, x.told(0, 3), 3 * (30 + i));
        }
        FirChain fill = withPlan(1, -4, 0, 1, 2, 3, 4);
        fill.join(0);
        fill.put(5);
        due("P19 of the last 0 filled in", fill.told(0, 0), 20);
    }

    /** P19 "4 the greatest size that a SUM can have here (NORM times 32768)", and sums of that size */
    private static void toldEnds() {
        FirChain x = withPlan(1, 1, 0, alike(32, 32767));
        for (int i = 0; i < 32; i++) {
            x.through(0, -32768);
        }
        due("P19 the greatest size", x.told(0, 4), 34358689792L);
        due("P19 the least SUM", x.told(0, 0), -34358689792L);
        due("P19 ROUNDED", x.told(0, 1), -34358689792L);
        due("P19 HELD", x.told(0, 2), -32768);
        due("P19 THE EXACT one", x.told(0, 3), -34358689792L);
        FirChain turned = withPlan(1, 1, 0, alike(32, -32767));
        for (int i = 0; i < 32; i++) {
            turned.through(0, -32768);
        }
        due("P19 the greatest SUM", turned.told(0, 0), 34358689792L);
        due("P19 HELD", turned.told(0, 2), 32767);
        FirChain none = withPlan(1, 1, 24, 0);
        none.through(0, -32768);
        for (int what = 0; what <= 4; what++) {
            due("P19 all 0, told(0, " + what + ")", none.told(0, what), 0);
        }
    }

    /** P19 "0: there was none since it got its PLAN" */
    private static void toldNoneSinceThePlan() {
        FirChain x = withPlan(1, 1, 0, 3);
        for (int what = 0; what <= 4; what++) {
            due("P19 none yet, told(0, " + what + ")", x.told(0, what), 0);
        }
        x.through(0, 5);
        due("P19 one", x.told(0, 0), 15);
        due("P19 its greatest size", x.told(0, 4), 98304);
        x.reset();
        due("P19 by reset() it stays", x.told(0, 0), 15);
        x.planAt(0, 16, 50, 0);
        for (int what = 0; what <= 4; what++) {
            due("P19 none since, told(0, " + what + ")", x.told(0, what), 0);
        }
        x.through(0, 5);
        x.plan(0, 16, 50);
        for (int what = 0; what <= 4; what++) {
            due("P19 none since plan, told(0, " + what + ")", x.told(0, what), 0);
        }
        x.through(0, 5);
        x.tap(0, 1);
        for (int what = 0; what <= 4; what++) {
            due("P19 without a PLAN, told(0, " + what + ")", x.told(0, what), 0);
        }
        FirChain never = withTaps(1, 1);
        due("P19 never planned", never.told(0, 4), 0);
    }

    /** P19 "0: .. BAD" */
    private static void toldBad() {
        int[] wrongWhat = {-1, 5, MIN, MAX};
        for (int what : wrongWhat) {
            refused("P19 told(0, " + what + ")", ChainBoundaries::busy, x -> x.told(0, what), 0);
        }
        int[] wrongStage = {-1, 5, MIN, MAX};
        for (int number : wrongStage) {
            for (int what = 0; what <= 4; what++) {
                due("P19 told(" + number + ", " + what + ")", busy().told(number, what), 0);
            }
        }
    }

    /** P20 "is at most": at the bound itself, by each WAY */
    private static void nearAtTheBound() {
        // the sum is a half, the exact one 3 eighths: 5 eighths off, the bound is 1 + 4 of them
        FirChain up = withPlan(8, 1, 2, 3);
        up.way(0, 2, false);
        due("P20 half up", up.through(0, 1), 1);
        due("P20 half up, near", up.near(0), 1);
        // the sum is 1 and a half, the exact one 9 eighths: 7 off, the bound is 3 + 4
        FirChain even = withPlan(8, 1, 2, 3, 0);
        even.way(0, 3, false);
        due("P20 half to the even one", even.through(0, 3), 2);
        due("P20 half to the even one, near", even.near(0), 1);
        // each coefficient is 0 for a half: as far off as the samples' sizes allow
        FirChain half = withPlan(2, 1, 0, alike(32, 1));
        for (int way = 0; way <= 3; way++) {
            half.way(0, way, way % 2 == 0);
            for (int i = 0; i < 32; i++) {
                half.through(0, -32768);
            }
            due("P20 half of all samples off", half.told(0, 1) * 2 - half.told(0, 3), 1048576);
            due("P20 half of all samples off, near", half.near(0), 1);
        }
        FirChain held = withPlan(1, 1, 0, alike(32, 32767));
        for (int i = 0; i < 32; i++) {
            held.through(0, 32767);
        }
        due("P20 as it was ROUNDED, not as it was HELD", held.near(0), 1);
        held.way(0, 0, true);
        held.through(0, 32767);
        due("P20 as it was ROUNDED, not as it was WRAPPED", held.near(0), 1);
        FirChain zero = withPlan(1, 1, 24, 0);
        zero.through(0, 0);
        due("P20 all 0", zero.near(0), 1);
    }

    /** P20 "if it was ROUNDED by WAY 0, 1": the WAY may be another one since, the samples forgotten */
    private static void nearByTheWayOfThen() {
        for (int way = 0; way <= 1; way++) {
            for (int then = 2; then <= 3; then++) {
                // 15 sixteenths off: 30 by 32, which is more than 1 + 16, not than 1 + 2 times 16
                FirChain x = withPlan(16, 1, 4, 15);
                x.way(0, way, false);
                due("P20 nearly 1 off", x.through(0, 1), 0);
                due("P20 twice 2^SHIFT more", x.near(0), 1);
                x.way(0, then, false);
                due("P20 by the WAY of then", x.near(0), 1);
                x.reset();
                due("P20 after reset()", x.near(0), 1);
            }
        }
        FirChain x = withPlan(2, 1, 0, alike(8, 1));
        for (int i = 0; i < 8; i++) {
            x.through(0, 32767);
        }
        x.reset();
        due("P20 by the samples of then", x.near(0), 1);
    }

    /** P20 "BAD" */
    private static void nearBad() {
        int[] wrongStage = {-1, 5, MIN, MAX};
        for (int number : wrongStage) {
            refused("P20 near(" + number + ")", ChainBoundaries::busy, x -> x.near(number), FirChain.BAD);
        }
    }

    /** P20 "NO: there was none" */
    private static void nearNone() {
        refused("P20 planned, none yet", ChainBoundaries::busy, x -> x.near(2), FirChain.NO);
        refused("P20 never planned", ChainBoundaries::busy, x -> x.near(3), FirChain.NO);
        refused("P20 no TAP", ChainBoundaries::busy, x -> x.near(4), FirChain.NO);
        FirChain x = busy();
        due("P20 there was one", x.near(0), 1);
        x.planAt(0, 16, 50, 0);
        due("P20 none since it got its PLAN", x.near(0), FirChain.NO);
        x.through(0, 0);
        due("P20 there was one again", x.near(0), 1);
        x.change(0, 0, 1);
        due("P20 its PLAN is gone", x.near(0), FirChain.NO);
    }

    private static void dueCounted(String name, FirChain x, int number, long... due) {
        for (int what = 0; what < due.length; what++) {
            due(name + ", counted(" + number + ", " + what + ")", x.counted(number, what), due[what]);
        }
    }

    /** P21 "since it got its PLAN" */
    private static void countedFromThePlan() {
        FirChain x = withPlan(1, 1, 0, 2);
        dueCounted("P21 at first", x, 0, 0, 0, 0);
        x.through(0, 20000);
        dueCounted("P21 one", x, 0, 1, 1, 40000);
        x.planAt(0, 16, 50, 1);
        dueCounted("P21 since planAt", x, 0, 0, 0, 0);
        x.through(0, 20000);
        dueCounted("P21 one again", x, 0, 1, 1, 80000);
        x.plan(0, 4, 50);
        dueCounted("P21 since plan", x, 0, 0, 0, 0);
        x.through(0, 1);
        x.plan(0, 4, 18);
        x.planAt(0, 4, 18, 9);
        dueCounted("P21 since the PLAN that it has", x, 0, 0, 0, 0);
    }

    /** P21 "or reset()" */
    private static void countedFromReset() {
        FirChain x = withPlan(1, 1, 0, 2);
        addPlanned(x, 1, 1, 0, 2);
        x.through(0, -20000);
        x.through(1, -20000);
        x.reset();
        dueCounted("P21 since reset()", x, 0, 0, 0, 0);
        dueCounted("P21 since reset()", x, 1, 0, 0, 0);
        x.through(0, 3);
        dueCounted("P21 then", x, 0, 1, 0, 6);
        x.part();
        x.empty();
        x.way(0, 1, true);
        dueCounted("P21 nothing else counts anew", x, 0, 1, 0, 6);
    }

    /** P21 "1 how many outputs were HELD, or WRAPPED, to another number" */
    private static void countedHeldOrWrapped() {
        boolean[] wraps = {false, true};
        for (boolean wrapping : wraps) {
            FirChain x = withPlan(1, 1, 0, 1, 1);
            x.way(0, 0, wrapping);
            int[] samples = {32767, 0, 0, -32768, 0, 0, 32766, 1, 0, -32767, -1};
            for (int sample : samples) {
                x.through(0, sample);
            }
            due("P21 none, though at both ends", x.counted(0, 1), 0);
            x.through(0, -32768);
            due("P21 below", x.counted(0, 1), 1);
            x.through(0, 32767);
            due("P21 back between", x.counted(0, 1), 1);
            x.through(0, 1);
            due("P21 above", x.counted(0, 1), 2);
        }
        FirChain thin = withPlan(1, 2, 0, 2);
        thin.join(0);
        thin.put(0);
        thin.put(32767);
        due("P21 one that was thinned", thin.counted(0, 1), 1);
        FirChain fill = withPlan(1, -2, 0, 0, 2);
        fill.join(0);
        fill.put(32767);
        due("P21 one that was filled in", fill.counted(0, 1), 1);
        due("P21 those filled in came in, too", fill.counted(0, 0), 2);
    }

    /** P21 "2 the greatest size of a SUM" */
    private static void countedGreatestSum() {
        FirChain x = withPlan(1, 1, 0, 1);
        long[][] steps = {{0, 0}, {-1, 1}, {1, 1}, {0, 1}, {32767, 32767}, {-32767, 32767}, {-32768, 32768},
            {32767, 32768}, {0, 32768}};
        for (long[] step : steps) {
            x.through(0, (int) step[0]);
            due("P21 the greatest size, after " + step[0], x.counted(0, 2), step[1]);
        }
        FirChain wide = withPlan(1, 1, 0, alike(32, -32767));
        for (int i = 0; i < 40; i++) {
            wide.through(0, -32768);
        }
        due("P21 the greatest of all", wide.counted(0, 2), wide.told(0, 4));
        due("P21 how much that is", wide.counted(0, 2), 34358689792L);
    }

    /** P21 "(all 0 without a PLAN)" */
    private static void countedWithoutAPlan() {
        FirChain x = busy();
        dueCounted("P21 never planned", x, 3, 0, 0, 0);
        dueCounted("P21 no TAP", x, 4, 0, 0, 0);
        due("P21 with one", x.counted(0, 0), 6);
        x.change(0, 0, 1);
        dueCounted("P21 its PLAN is gone", x, 0, 0, 0, 0);
        x.tap(1, 0);
        dueCounted("P21 its PLAN is gone by tap", x, 1, 0, 0, 0);
    }

    /** P21 "BAD: -2" */
    private static void countedBad() {
        int[] wrongWhat = {-1, 3, MIN, MAX};
        for (int what : wrongWhat) {
            for (int number = 0; number < 5; number++) {
                int stage = number;
                refused("P21 counted(" + stage + ", " + what + ")", ChainBoundaries::busy,
                        x -> x.counted(stage, what), -2);
            }
        }
        int[] wrongStage = {-1, 5, MIN, MAX};
        for (int number : wrongStage) {
            for (int what = 0; what <= 2; what++) {
                due("P21 counted(" + number + ", " + what + ")", busy().counted(number, what), -2);
            }
        }
    }

    /** P22 "0 STAGES, 1 in THE CHAIN, 2 SAMPLES of THE TAPE": from none to all that may be */
    private static void countEnds() {
        FirChain x = withFullTape();
        for (int number = 0; number < 8; number++) {
            due("P22 STAGES", x.count(0), number);
            due("P22 in THE CHAIN", x.count(1), number);
            addPlanned(x, 1, 1, 0, 1);
            x.join(number);
        }
        due("P22 STAGES", x.count(0), 8);
        x.stage(1, 1);
        due("P22 STAGES still", x.count(0), 8);
        due("P22 in THE CHAIN", x.count(1), 8);
        due("P22 SAMPLES", x.count(2), 600);
        x.part();
        due("P22 in THE CHAIN, parted", x.count(1), 0);
        due("P22 STAGES, parted", x.count(0), 8);
        x.empty();
        due("P22 SAMPLES, emptied", x.count(2), 0);
    }

    /** P22 "3 that were lost ever" */
    private static void countLostEver() {
        FirChain x = withFullTape();
        due("P22 none lost", x.count(3), 0);
        x.ramp(1, 1, 5);
        due("P22 five", x.count(3), 5);
        x.empty();
        x.reset();
        x.part();
        due("P22 ever", x.count(3), 5);
        x.put(1);
        due("P22 no more than that", x.count(3), 5);
        FirChain most = withBys(-4, -4);
        most.join(0);
        most.join(1);
        // eight calls so far: the last question is the 512th call
        for (int i = 0; i < 503; i++) {
            most.ramp(1, 1, 64);
        }
        due("P22 as many as can be", most.count(3), 503 * 1024 - 600);
    }

    /** P22 "BAD" */
    private static void countBad() {
        int[] wrongWhat = {-1, 4, MIN, MAX};
        for (int what : wrongWhat) {
            refused("P22 count(" + what + ")", ChainBoundaries::busy, x -> x.count(what), FirChain.BAD);
        }
    }

    private static long mixed(long... values) {
        long h = 43;
        for (long v : values) {
            h = 31 * h + v;
        }
        return h;
    }

    /** P23 "h = 43" */
    private static void digestOfNothing() {
        FirChain x = new FirChain();
        due("P23 nothing", x.digest(), 43);
        x.put(0);
        due("P23 a 0", x.digest(), 31 * 43);
        x.empty();
        due("P23 nothing again", x.digest(), 43);
        x.stage(1, 1);
        due("P23 a stage without a TAP", x.digest(), mixed(0, 1, 1, 0, 0, -1, -1, -1, -1, 3, 0, 0));
    }

    /** P23 "its TAPS": 32 of them; without a PLAN no COEFFICIENTS and no samples */
    private static void digestOfTaps() {
        FirChain x = new FirChain();
        x.stage(1000000, -4);
        long[] due = new long[44];
        long[] about = {32, 1000000, -4, 0, 0, -1, -1, -1, -1, 0};
        System.arraycopy(about, 0, due, 0, 10);
        for (int k = 0; k < 32; k++) {
            x.tap(0, k % 2 == 0 ? 1000000 - k : -1000000);
            due[10 + k] = k % 2 == 0 ? 1000000 - k : -1000000;
        }
        due("P23 32 TAPS", x.digest(), mixed(due));
        FirChain gone = withPlan(1, 1, 0, 5);
        gone.through(0, 9);
        gone.change(0, 0, 6);
        due("P23 its PLAN is gone", gone.digest(), mixed(1, 1, 1, 0, 0, -1, -1, -1, -1, 1, 6, 0, 0));
    }

    /** P23 "the latest samples that came in, as many as TAPS, the latest first (with a PLAN)" */
    private static void digestWithAPlan() {
        FirChain x = withPlan(2, 1, 1, 3, 4, 5);
        due("P23 none came in", x.digest(), mixed(3, 2, 1, 0, 0, 1, 16, 50, -1, 0,
                3, 4, 5, 3, 4, 5, 0, 0, 0, 0, 0));
        x.through(0, -32768);
        due("P23 one came in", x.digest(), mixed(3, 2, 1, 0, 0, 1, 16, 50, -1, 0,
                3, 4, 5, 3, 4, 5, -32768, 0, 0, 1, 1));
        for (int i = 0; i < 40; i++) {
            x.through(0, 100 + i);
        }
        // the two behind the first sample are held, as it is
        due("P23 more came in than TAPS", x.digest(), mixed(3, 2, 1, 0, 0, 1, 16, 50, -1, 0,
                3, 4, 5, 3, 4, 5, 139, 138, 137, 41, 3));
        x.reset();
        due("P23 after reset()", x.digest(), mixed(3, 2, 1, 0, 0, 1, 16, 50, -1, 0,
                3, 4, 5, 3, 4, 5, 0, 0, 0, 0, 0));
    }

    /** P23 "THE TAPE": all 600, none that is lost */
    private static void digestOfAFullTape() {
        long[] due = new long[600];
        for (int i = 0; i < 600; i++) {
            due[i] = i;
        }
        FirChain x = withFullTape();
        due("P23 600", x.digest(), mixed(due));
        x.put(7);
        due("P23 one was lost", x.digest(), mixed(due));
    }
}
