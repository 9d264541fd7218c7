/** The boundary cases of the promises 29 to 39: predictions and searches. */
public final class EdgesOfPromises29To39Test {
    private EdgesOfPromises29To39Test() {
    }

    public static void main(String[] args) {
        Edges.runPromises(EdgesOfPromises29To39Test.class, 29, 39);
    }

    private interface BasinSearch {
        int of(SluiceChain chain, int basin, int steps);
    }

    private interface BagSearch {
        int of(SluiceChain chain, int bags, int steps);
    }

    private interface StepSearch {
        int of(SluiceChain chain, int steps);
    }

    /** Refused for what is no basin, whatever the steps are. */
    private static void checkNoBasin(BasinSearch search, int... stepsToTry) {
        for (int steps : stepsToTry) {
            for (int basin : Edges.outside(0, 4)) {
                Edges.refusedEverywhere("basin " + basin + ", steps " + steps, Edges.INDEX,
                        chain -> search.of(chain, basin, steps));
            }
            for (int count = 0; count < 5; count++) {
                int none = count;
                Edges.refused("basin " + none + " of as many, steps " + steps, Edges.INDEX,
                        () -> States.basins(none), chain -> search.of(chain, none, steps));
            }
        }
    }

    private static void checkNoSteps(BasinSearch search, int basin, int... wrong) {
        for (int steps : wrong) {
            Edges.refused("steps " + steps, Edges.ARGUMENT, States::busy,
                    chain -> search.of(chain, basin, steps));
        }
    }

    // ---- 29: levelAfter

    static void promise29FirstAndLastBasin() {
        SluiceChain chain = States.full();
        Check.same("first", 99, chain.levelAfter(0, 0));
        Check.same("last", 99, chain.levelAfter(4, 30));
    }

    static void promise29RefusesWhatIsNoBasin() {
        checkNoBasin(SluiceChain::levelAfter, 0, 1, 30);
    }

    static void promise29Takes0Steps() {
        SluiceChain chain = States.holding(7);
        chain.setGate(0, 1);
        chain.addRain(20);
        Check.same("level", 7, chain.levelAfter(0, 0));
    }

    static void promise29Takes30Steps() {
        SluiceChain chain = States.basins(2);
        chain.pour(0, 50);
        chain.setAutomatic(0, 47);
        Check.same("3 above the threshold", 50, chain.levelAfter(0, 30));
        chain.setAutomatic(0, 46);
        Check.same("4 above the threshold", 46, chain.levelAfter(0, 30));
        Check.same("the next basin", 4, chain.levelAfter(1, 30));
    }

    /** Twelve steps bring 2 units, and each step lets 4 units out. */
    static void promise29LastStepCounts() {
        SluiceChain chain = States.oneBasin(99, 1);
        States.pour(chain, 0, 97);
        chain.setGate(0, 1);
        States.rain(chain, 12, 2);
        Check.same("97 + 24 - 4 * 29", 5, chain.levelAfter(0, 29));
        Check.same("97 + 24 - 4 * 30", 1, chain.levelAfter(0, 30));
    }

    static void promise29RefusesMinus1And31Steps() {
        checkNoSteps(SluiceChain::levelAfter, 0, Edges.outside(0, 30));
        checkNoSteps(SluiceChain::levelAfter, 1, Edges.outside(0, 30));
    }

    static void promise29NoBasinComesBeforeTheSteps() {
        checkNoBasin(SluiceChain::levelAfter, -1, 31);
    }

    // ---- 30: spillOf

    static void promise30FirstAndLastBasin() {
        SluiceChain chain = States.basins(5);
        chain.pour(0, 50);
        chain.pour(4, 49);
        chain.addRain(3);
        Check.same("first", 3, chain.spillOf(0, 1));
        Check.same("last", 2, chain.spillOf(4, 1));
        Check.same("another", 0, chain.spillOf(2, 1));
    }

    static void promise30RefusesWhatIsNoBasin() {
        checkNoBasin(SluiceChain::spillOf, 0, 1, 30);
    }

    static void promise30Takes0Steps() {
        SluiceChain chain = States.oneBasin(10, 3);
        chain.addRain(20);
        Check.same("at first", 0, chain.spillOf(0, 0));
        chain.addRain(20);
        chain.advance(1);
        Check.same("what was spilled before is not predicted", 0, chain.spillOf(0, 0));
    }

    /** Each step brings 4 units into the second basin; the 24th fills it. */
    static void promise30Takes30Steps() {
        SluiceChain chain = new SluiceChain();
        chain.addBasin(99, 1, 0);
        chain.addBasin(99, 0, 0);
        States.pour(chain, 0, 97);
        States.rain(chain, 12, 4);
        chain.setGate(0, 1);
        chain.pour(1, 3);
        Check.same("24 steps", 0, chain.spillOf(1, 24));
        Check.same("25 steps", 4, chain.spillOf(1, 25));
        Check.same("29 steps", 20, chain.spillOf(1, 29));
        Check.same("30 steps", 24, chain.spillOf(1, 30));
    }

    static void promise30UnitsAtAndAboveTheCapacity() {
        SluiceChain chain = States.oneBasin(10, 1);
        chain.addRain(10);
        chain.addRain(1);
        Check.same("at it", 0, chain.spillOf(0, 1));
        Check.same("above it", 1, chain.spillOf(0, 2));
    }

    static void promise30RefusesMinus1And31Steps() {
        checkNoSteps(SluiceChain::spillOf, 0, Edges.outside(0, 30));
        checkNoSteps(SluiceChain::spillOf, 1, Edges.outside(0, 30));
    }

    static void promise30NoBasinComesBeforeTheSteps() {
        checkNoBasin(SluiceChain::spillOf, -1, 31);
    }

    // ---- 31: stepsUntilFlood

    static void promise31FloodInTheNextStep() {
        SluiceChain chain = States.oneBasin(10, 1);
        chain.addRain(11);
        Check.same("steps", 1, chain.stepsUntilFlood());
    }

    static void promise31FullBasinIsNotFloodedYet() {
        SluiceChain chain = States.oneBasin(10, 1);
        chain.pour(0, 10);
        chain.addRain(0);
        chain.addRain(1);
        Check.same("steps", 2, chain.stepsUntilFlood());
    }

    /** In each step 4 units flow into the second basin, which then spills 3 of them. */
    private static SluiceChain floodIn(int steps) {
        SluiceChain chain = new SluiceChain();
        chain.addBasin(99, 1, 0);
        chain.addBasin(99, 0, 0);
        States.pour(chain, 0, 99);
        States.rain(chain, 12, 4);
        chain.setGate(0, 1);
        States.pour(chain, 1, 99 + 3 - 4 * steps);
        return chain;
    }

    static void promise31FloodAfterEachNumberOfSteps() {
        for (int steps = 1; steps <= 25; steps++) {
            Check.same("steps", steps, floodIn(steps).stepsUntilFlood());
        }
        for (int gone = 1; gone <= 30; gone++) {
            Check.same("gone " + gone, 31 - gone, States.steps(tooLate(), gone).stepsUntilFlood());
        }
    }

    static void promise31FloodAfter30StepsIsFound() {
        SluiceChain chain = late();
        Check.same("steps", 30, chain.stepsUntilFlood());
        Check.same("29 steps spill", 0, chain.advance(29));
        Check.same("the 30th spills", 1, chain.advance(1));
    }

    static void promise31FloodAfter31StepsIsNotFound() {
        Edges.refused("31", Edges.NONE, EdgesOfPromises29To39Test::tooLate,
                SluiceChain::stepsUntilFlood);
        SluiceChain chain = tooLate();
        Check.same("30 steps spill", 0, chain.advance(30));
        Check.same("the 31st spills", 1, chain.advance(1));
    }

    /**
     * In each step 4 units flow into the second basin; from the eighth step on it lets them pass.
     * The third basin has room for 95 units, so that the 24th time that they come is too much.
     */
    private static SluiceChain tooLate() {
        SluiceChain chain = new SluiceChain();
        chain.addBasin(99, 1, 0);
        chain.addBasin(50, 0, 0);
        chain.addBasin(99, 0, 77);
        chain.setGate(0, 1);
        States.pour(chain, 0, 99);
        States.rain(chain, 12, 4);
        chain.setAutomatic(1, 28);
        chain.pour(2, 4);
        return chain;
    }

    /** The flood comes with the 30th step. */
    private static SluiceChain late() {
        return States.steps(tooLate(), 1);
    }

    static void promise31OnlyBasinsFlood() {
        Edges.refused("no basins", Edges.NONE, States::empty, SluiceChain::stepsUntilFlood);
        Edges.refused("rain without basins", Edges.NONE, () -> {
            SluiceChain chain = new SluiceChain();
            States.rain(chain, 12, 20);
            return chain;
        }, SluiceChain::stepsUntilFlood);
    }

    static void promise31NoFloodAtAll() {
        Edges.refused("no rain", Edges.NONE, () -> States.holding(99),
                SluiceChain::stepsUntilFlood);
        Edges.refused("the flood is over", Edges.NONE, () -> {
            SluiceChain chain = States.oneBasin(10, 3);
            chain.addRain(20);
            return States.steps(chain, 1);
        }, SluiceChain::stepsUntilFlood);
    }

    static void promise31FirstOfSeveralFloods() {
        SluiceChain chain = States.basins(5);
        chain.pour(4, 49);
        chain.pour(2, 48);
        States.rain(chain, 12, 1);
        Check.same("steps", 2, chain.stepsUntilFlood());
    }

    // ---- 32 to 34: plans

    private static void checkPlans(
            String what, SluiceChain chain, int basin, int steps, int least, int best) {
        Check.same(what + ", leastSpill", least, chain.leastSpill(basin, steps));
        Check.same(what + ", leastSpillByPruning", least,
                chain.leastSpillByPruning(basin, steps));
        Check.same(what + ", bestOpening", best, chain.bestOpening(basin, steps));
    }

    /** Ten units of rain more than the gate lets out come in each step. */
    private static SluiceChain pouring() {
        SluiceChain chain = States.oneBasin(10, 3);
        chain.pour(0, 10);
        States.rain(chain, 12, 10);
        return chain;
    }

    static void promise32Takes1Step() {
        Check.same("30 - 20", 10, pouring().leastSpill(0, 1));
    }

    static void promise32Takes4Steps() {
        Check.same("3 steps", 30, pouring().leastSpill(0, 3));
        Check.same("4 steps", 40, pouring().leastSpill(0, 4));
    }

    static void promise32Refuses0And5Steps() {
        checkNoSteps(SluiceChain::leastSpill, 0, Edges.outside(1, 4));
    }

    static void promise32RefusesWhatIsNoBasin() {
        checkNoBasin(SluiceChain::leastSpill, 1, 4);
    }

    static void promise32RefusesAnAutomaticGate() {
        checkAutomatic(SluiceChain::leastSpill);
    }

    static void promise32NoBasinComesBeforeTheSteps() {
        checkNoBasin(SluiceChain::leastSpill, 0, 5);
    }

    static void promise32StepsComeBeforeTheAutomaticGate() {
        checkNoSteps(SluiceChain::leastSpill, 1, Edges.outside(1, 4));
    }

    static void promise32FirstAndLastBasin() {
        SluiceChain chain = lastBasinFull();
        Check.same("first", 2, chain.leastSpill(0, 1));
        Check.same("last", 0, chain.leastSpill(4, 1));
    }

    static void promise32NothingToSpill() {
        Check.same("no water", 0, States.basins(5).leastSpill(2, 4));
    }

    /** The plan tried last is 5 and 5, and lets out twice 20 units, though all plans are equal. */
    static void promise32TriesPlansThatAreNotBetter() {
        SluiceChain chain = States.holding(99);
        Check.same("no spill", 0, chain.leastSpill(0, 2));
        Check.same("level by the last plan", 59, levelByTheLastPlan(chain));
    }

    /** How far the search went is told by no call. */
    private static int levelByTheLastPlan(SluiceChain chain) {
        Check.same("both steps", chain.time() + 2,
                Inside.read(chain, "plans", "tries", "0", "time"));
        return Inside.read(chain, "plans", "tries", "0", "basins", "0", "level");
    }

    static void promise33Takes1Step() {
        Check.same("30 - 20", 10, pouring().leastSpillByPruning(0, 1));
    }

    static void promise33Takes4Steps() {
        Check.same("3 steps", 30, pouring().leastSpillByPruning(0, 3));
        Check.same("4 steps", 40, pouring().leastSpillByPruning(0, 4));
    }

    static void promise33Refuses0And5Steps() {
        checkNoSteps(SluiceChain::leastSpillByPruning, 0, Edges.outside(1, 4));
    }

    static void promise33RefusesWhatIsNoBasin() {
        checkNoBasin(SluiceChain::leastSpillByPruning, 1, 4);
    }

    static void promise33RefusesAnAutomaticGate() {
        checkAutomatic(SluiceChain::leastSpillByPruning);
    }

    static void promise33NoBasinComesBeforeTheSteps() {
        checkNoBasin(SluiceChain::leastSpillByPruning, 0, 5);
    }

    static void promise33StepsComeBeforeTheAutomaticGate() {
        checkNoSteps(SluiceChain::leastSpillByPruning, 1, Edges.outside(1, 4));
    }

    static void promise33FirstAndLastBasin() {
        SluiceChain chain = lastBasinFull();
        Check.same("first", 2, chain.leastSpillByPruning(0, 1));
        Check.same("last", 0, chain.leastSpillByPruning(4, 1));
    }

    static void promise33NothingToSpill() {
        Check.same("no water", 0, States.basins(5).leastSpillByPruning(2, 4));
    }

    /** The last plan, 5 in each step, is the only one with the least spill. */
    static void promise33LastPlanOfAllCanBeTheBest() {
        SluiceChain chain = States.oneBasin(10, 3);
        States.rain(chain, 4, 20);
        Check.same("4 * 40 - 10", 150, chain.leastSpillByPruning(0, 4));
        Check.same("by trying all", 150, chain.leastSpill(0, 4));
    }

    /** The first plan, 0 in each step, spills 1 unit, and each other opening spills more. */
    static void promise33FirstPlanOfAllCanBeTheBest() {
        SluiceChain chain = new SluiceChain();
        chain.addBasin(99, 0, 0);
        chain.addBasin(10, 1, 0);
        States.pour(chain, 0, 99);
        chain.pour(1, 9);
        chain.addRain(2);
        Check.same("9 + 2 - 10", 1, chain.leastSpillByPruning(0, 4));
        Check.same("by trying all", 1, chain.leastSpill(0, 4));
        Check.same("first opening", 0, chain.bestOpening(0, 4));
    }

    /** Much water in all basins: more spill than in any other chain. */
    static void promise33MostThatCanSpill() {
        SluiceChain chain = new SluiceChain();
        for (int i = 0; i < 5; i++) {
            chain.addBasin(10, 3, 0);
            chain.pour(i, 10);
        }
        States.rain(chain, 4, 20);
        checkPlans("all full", chain, 4, 4, 5 * 240 - 80, 5);
        checkPlans("the first gate only moves it", chain, 0, 4, 5 * 240, 0);
    }

    /** After 0 and 0 nothing is better; 0 and 5 is the last plan, because 1 begins as badly. */
    static void promise33LeavesOutPlansThatBeginAsBadly() {
        SluiceChain chain = States.holding(99);
        Check.same("no spill", 0, chain.leastSpillByPruning(0, 2));
        Check.same("level by the last plan", 79, levelByTheLastPlan(chain));
    }

    static void promise34Takes1Step() {
        Check.same("opening", 5, pouring().bestOpening(0, 1));
    }

    /** 63 units come into a full basin, and the last three openings let 60 out. */
    static void promise34Takes4Steps() {
        SluiceChain chain = States.oneBasin(99, 3);
        States.pour(chain, 0, 99);
        States.rain(chain, 2, 0);
        chain.addRain(1);
        chain.addRain(20);
        Check.same("3 steps", 0, chain.bestOpening(0, 3));
        Check.same("4 steps", 1, chain.bestOpening(0, 4));
        Check.same("the spill of 4 steps", 0, chain.leastSpill(0, 4));
    }

    static void promise34Refuses0And5Steps() {
        checkNoSteps(SluiceChain::bestOpening, 0, Edges.outside(1, 4));
    }

    static void promise34RefusesWhatIsNoBasin() {
        checkNoBasin(SluiceChain::bestOpening, 1, 4);
    }

    static void promise34RefusesAnAutomaticGate() {
        checkAutomatic(SluiceChain::bestOpening);
    }

    static void promise34NoBasinComesBeforeTheSteps() {
        checkNoBasin(SluiceChain::bestOpening, 0, 5);
    }

    static void promise34StepsComeBeforeTheAutomaticGate() {
        checkNoSteps(SluiceChain::bestOpening, 1, Edges.outside(1, 4));
    }

    static void promise34FirstAndLastBasin() {
        SluiceChain chain = lastBasinFull();
        Check.same("first", 0, chain.bestOpening(0, 1));
        Check.same("last", 1, chain.bestOpening(4, 1));
    }

    static void promise34LowestOfOpeningsThatAreEqual() {
        Check.same("all are equal", 0, States.basins(5).bestOpening(2, 4));
        for (int rain = 0; rain <= 20; rain++) {
            SluiceChain chain = States.oneBasin(10, 1);
            chain.pour(0, 10);
            chain.setGate(0, 5);
            chain.addRain(rain);
            Check.same("rain of " + rain, (rain + 3) / 4, chain.bestOpening(0, 1));
        }
    }

    private static SluiceChain lastBasinFull() {
        SluiceChain chain = States.basins(5);
        chain.pour(4, 50);
        chain.addRain(2);
        return chain;
    }

    private static void checkAutomatic(BasinSearch search) {
        for (int steps = 1; steps <= 4; steps++) {
            int some = steps;
            Edges.refused("steps " + some, Edges.STATE, States::busy,
                    chain -> search.of(chain, 1, some));
            Edges.refused("the last of five, steps " + some, Edges.STATE, States::full,
                    chain -> search.of(chain, 4, some));
        }
        SluiceChain chain = States.busy();
        chain.setManual(1);
        Check.yes("manual again", search.of(chain, 1, 1) >= 0);
    }

    // ---- 35: endangered

    /** In the next step basin i spills 5 - i units; there are five of them. */
    private static SluiceChain fiveEndangered() {
        SluiceChain chain = new SluiceChain();
        for (int i = 0; i < 5; i++) {
            chain.addBasin(10 + i, 1, 10 * i + 9);
        }
        chain.addRain(15);
        return chain;
    }

    private static void checkSteps(StepSearch search) {
        for (int steps : Edges.outside(0, 30)) {
            Edges.refusedEverywhere("steps " + steps, Edges.ARGUMENT,
                    chain -> search.of(chain, steps));
        }
    }

    static void promise35Takes0Steps() {
        Check.same("number", 0, fiveEndangered().endangered(0));
    }

    static void promise35Takes30Steps() {
        Check.same("29 steps", 0, late().endangered(29));
        Check.same("30 steps", 1, late().endangered(30));
        Check.same("one step too late", 0, tooLate().endangered(30));
    }

    static void promise35RefusesMinus1And31Steps() {
        checkSteps(SluiceChain::endangered);
    }

    static void promise35NoBasins() {
        Check.same("number", 0, new SluiceChain().endangered(30));
    }

    static void promise35AllFiveBasins() {
        Check.same("number", 5, fiveEndangered().endangered(1));
    }

    // ---- 36 and 37: the best protection, by both ways

    private static void checkTakesBags(BagSearch search) {
        Check.same("no bags", 0, search.of(fiveEndangered(), 0, 1));
        SluiceChain chain = States.oneBasin(10, 3);
        States.rain(chain, 2, 18);
        Check.same("98 are needed, 97 there", 0, search.of(chain, 97, 2));
        Check.same("98 are needed and there", 1, search.of(chain, 98, 2));
        SluiceChain more = States.oneBasin(10, 1);
        States.rain(more, 5, 20);
        more.addRain(9);
        Check.same("99 are needed, 98 there", 0, search.of(more, 98, 6));
        Check.same("99 are needed and there", 1, search.of(more, 99, 6));
        more.addRain(1);
        Check.same("100 are needed", 0, search.of(more, 99, 7));
    }

    private static void checkRefusesBags(BagSearch search) {
        for (int bags : Edges.outside(0, 99)) {
            Edges.refusedEverywhere("bags " + bags, Edges.ARGUMENT,
                    chain -> search.of(chain, bags, 6));
            Edges.refusedEverywhere("bags " + bags + " and steps", Edges.ARGUMENT,
                    chain -> search.of(chain, bags, 31));
        }
    }

    private static void checkRefusesSteps(BagSearch search) {
        for (int steps : Edges.outside(0, 30)) {
            Edges.refusedEverywhere("steps " + steps, Edges.ARGUMENT,
                    chain -> search.of(chain, 20, steps));
        }
    }

    private static void checkTakesSteps(BagSearch search) {
        Check.same("0 steps", 0, search.of(fiveEndangered(), 99, 0));
        Check.same("1 step", 145, search.of(fiveEndangered(), 99, 1));
        Check.same("29 steps", 0, search.of(late(), 99, 29));
        Check.same("30 steps", 77, search.of(late(), 99, 30));
    }

    private static void checkChoices(BagSearch search) {
        int[] due = {0, 49, 49, 88, 88, 88, 117, 117, 117, 117, 136, 136, 136, 136, 136, 145, 145};
        for (int bags = 0; bags < due.length; bags++) {
            Check.same("1, 2, 3, 4, 5 bags, " + bags, due[bags],
                    search.of(fiveEndangered(), bags, 1));
        }
        Check.same("the most bags", 145, search.of(fiveEndangered(), 99, 1));
    }

    private static void checkNothing(BagSearch search) {
        Check.same("no basins", 0, search.of(new SluiceChain(), 99, 30));
        Check.same("no endangered basin", 0, search.of(States.holding(99), 99, 30));
        SluiceChain chain = new SluiceChain();
        chain.addBasin(10, 1, 0);
        chain.addRain(20);
        Check.same("a field without value", 0, search.of(chain, 99, 1));
    }

    /** Each basin is chosen once at most, though bags are left for a second time. */
    private static void checkOnce(BagSearch search) {
        SluiceChain chain = States.oneBasin(10, 1);
        chain.addRain(11);
        Check.same("1 bag needed, 99 there", 1, search.of(chain, 99, 1));
    }

    static void promise36Takes0To99Bags() {
        checkTakesBags(SluiceChain::bestProtection);
    }

    static void promise36RefusesMinus1And100Bags() {
        checkRefusesBags(SluiceChain::bestProtection);
    }

    static void promise36Takes0To30Steps() {
        checkTakesSteps(SluiceChain::bestProtection);
    }

    static void promise36RefusesMinus1And31Steps() {
        checkRefusesSteps(SluiceChain::bestProtection);
    }

    static void promise36ExactlyEnoughAndOneTooFewBags() {
        checkChoices(SluiceChain::bestProtection);
    }

    static void promise36NothingCanBeProtected() {
        checkNothing(SluiceChain::bestProtection);
    }

    static void promise36BasinIsChosenOnce() {
        checkOnce(SluiceChain::bestProtection);
    }

    /** Only values that no call can bring about tell the two ways from each other. */
    static void promise36IsFoundByTheTable() {
        SluiceChain chain = hugeValues(0, 9);
        Check.same("the four are missed", 1_500_000_000, chain.bestProtection(20, 1));
    }

    static void promise37Takes0To99Bags() {
        checkTakesBags(SluiceChain::bestProtectionBySets);
    }

    static void promise37RefusesMinus1And100Bags() {
        checkRefusesBags(SluiceChain::bestProtectionBySets);
    }

    static void promise37Takes0To30Steps() {
        checkTakesSteps(SluiceChain::bestProtectionBySets);
    }

    static void promise37RefusesMinus1And31Steps() {
        checkRefusesSteps(SluiceChain::bestProtectionBySets);
    }

    static void promise37ExactlyEnoughAndOneTooFewBags() {
        checkChoices(SluiceChain::bestProtectionBySets);
    }

    static void promise37NothingCanBeProtected() {
        checkNothing(SluiceChain::bestProtectionBySets);
    }

    static void promise37BasinIsChosenOnce() {
        checkOnce(SluiceChain::bestProtectionBySets);
    }

    /** See promise36IsFoundByTheTable. */
    static void promise37IsFoundByTheSets() {
        SluiceChain chain = hugeValues(0, 9);
        int sumOfFour = 1_705_032_704;
        Check.same("the four are found", sumOfFour, chain.bestProtectionBySets(20, 1));
        Check.same("one bag is missing", 1_500_000_000, chain.bestProtectionBySets(19, 1));
    }

    // ---- 38: bagsForAll

    static void promise38Takes0Steps() {
        Check.same("bags", 0, fiveEndangered().bagsForAll(0));
    }

    static void promise38Takes30Steps() {
        Check.same("29 steps", 0, late().bagsForAll(29));
        Check.same("30 steps", 1, late().bagsForAll(30));
        Check.same("one step too late", 0, tooLate().bagsForAll(30));
    }

    static void promise38RefusesMinus1And31Steps() {
        checkSteps(SluiceChain::bagsForAll);
    }

    static void promise38NoBasins() {
        Check.same("bags", 0, new SluiceChain().bagsForAll(30));
    }

    static void promise38AllFiveBasins() {
        Check.same("1 + 2 + 3 + 4 + 5", 15, fiveEndangered().bagsForAll(1));
    }

    static void promise38MoreBagsThanThereCanBe() {
        SluiceChain chain = new SluiceChain();
        for (int i = 0; i < 5; i++) {
            chain.addBasin(10, 3, 1);
            chain.pour(i, 10);
        }
        States.rain(chain, 12, 20);
        Check.same("5 * 12 * 60", 3600, chain.bagsForAll(30));
    }

    // ---- 39: isConsistent

    static void promise39EmptyAndFullObjects() {
        Check.yes("empty", States.empty().isConsistent());
        Check.yes("busy", States.busy().isConsistent());
        Check.yes("full", States.full().isConsistent());
    }

    static void promise39LevelAtTheCapacityIsConsistent() {
        SluiceChain chain = States.holding(98);
        Inside.add(chain, 1, "chain", "basins", "0", "level");
        Inside.add(chain, 1, "chain", "poured");
        Check.yes("99 of 99", chain.isConsistent());
    }

    static void promise39LevelAboveTheCapacityIsNotConsistent() {
        for (int basin = 0; basin < 5; basin++) {
            SluiceChain chain = States.full();
            Inside.add(chain, 1, "chain", "basins", "" + basin, "level");
            Inside.add(chain, 1, "chain", "poured");
            Check.same("the ways agree", chain.stored(), chain.storedByAccounts());
            Check.no("100 of 99 in basin " + basin, chain.isConsistent());
        }
    }

    static void promise39AccountsThatDisagreeAreNotConsistent() {
        for (String account : new String[] {"rained", "poured", "river"}) {
            for (int amount : new int[] {1, -1}) {
                SluiceChain chain = States.busy();
                Inside.add(chain, amount, "chain", account);
                Check.no(account + " is wrong by " + amount, chain.isConsistent());
            }
        }
        SluiceChain chain = States.busy();
        Inside.add(chain, 1, "chain", "basins", "1", "spilled");
        Check.no("spilled is wrong", chain.isConsistent());
        Inside.add(chain, -1, "chain", "river");
        Check.yes("the mistakes make up for each other", chain.isConsistent());
    }

    /**
     * So much rain comes in that the sum of two spills is below 0; then a plan that is cut off
     * could have become better, and the two ways disagree. No call can bring this about.
     */
    static void promise39LeastSpillsIn2StepsThatDisagreeAreNotConsistent() {
        Check.yes("rain in the first step", hugeRainAfter(0).isConsistent());
        Check.no("rain in the second step", hugeRainAfter(1).isConsistent());
        Check.yes("rain in the third step", hugeRainAfter(2).isConsistent());
    }

    static void promise39LeastSpillsOfAutomaticGatesAreLeftOut() {
        SluiceChain chain = hugeRainAfter(1);
        chain.setAutomatic(0, 99);
        Check.no("the last gate is manual", chain.isConsistent());
        chain.setAutomatic(1, 99);
        Check.yes("no gate is manual", chain.isConsistent());
    }

    private static SluiceChain hugeRainAfter(int steps) {
        SluiceChain chain = new SluiceChain();
        chain.addBasin(99, 0, 0);
        chain.addBasin(99, 0, 0);
        States.pour(chain, 1, 60);
        States.rain(chain, steps, 0);
        chain.addRain(1);
        Inside.add(chain, 1_200_000_000, "chain", "basins", "0", "catchment");
        Inside.add(chain, 1_200_000_000, "chain", "basins", "1", "catchment");
        return chain;
    }

    /**
     * The values are so great that the sum of two or three of them is less than one, and that of
     * four is more; the table, which adds one basin after the other, misses the four, and the two
     * ways disagree. No call can bring this about.
     */
    static void promise39ProtectionsThatDisagreeAreNotConsistent() {
        Check.no("20 bags for all four, 6 steps", hugeValues(5, 9).isConsistent());
        Check.no("19 bags for all four", hugeValues(5, 8).isConsistent());
        Check.yes("21 bags for all four", hugeValues(5, 10).isConsistent());
        Check.no("spill in the first step", hugeValues(0, 9).isConsistent());
        Check.yes("spill in the seventh step", hugeValues(6, 9).isConsistent());
    }

    /** Three basins that spill 5 units after these steps, and one that spills its level less 4. */
    private static SluiceChain hugeValues(int dryStepsBefore, int levelOfTheLast) {
        SluiceChain chain = new SluiceChain();
        for (int i = 0; i < 4; i++) {
            chain.addBasin(10, 1, 0);
            chain.pour(i, i == 3 ? levelOfTheLast : 9);
            Inside.add(chain, 1_500_000_000, "chain", "basins", "" + i, "value");
        }
        States.rain(chain, dryStepsBefore, 0);
        chain.addRain(6);
        return chain;
    }

    static void promise39AllGatesAutomatic() {
        SluiceChain chain = States.full();
        for (int i = 0; i < 5; i++) {
            chain.setAutomatic(i, 20 * i);
        }
        Check.yes("consistent", chain.isConsistent());
    }

    static void promise39MostSpill() {
        SluiceChain chain = new SluiceChain();
        for (int i = 0; i < 5; i++) {
            chain.addBasin(10, 3, 99);
            chain.pour(i, 10);
        }
        States.rain(chain, 12, 20);
        Check.yes("before", chain.isConsistent());
        chain.advance(12);
        Check.yes("after", chain.isConsistent());
    }

    static void promise39AfterRefusedCalls() {
        SluiceChain chain = States.busy();
        Check.fails("too much", Edges.STATE, () -> chain.pour(0, 50));
        Check.fails("steps", Edges.ARGUMENT, () -> chain.advance(31));
        Chains.type(chain, ";pour 1 1;step 3;pour 0 50");
        Check.fails("a program that fails", Edges.FAILED, chain::run);
        Check.yes("consistent", chain.isConsistent());
    }

    static void promise39AfterUndoAndRestore() {
        SluiceChain chain = States.busy();
        while (Traces.canUndo(chain)) {
            Check.yes("undone", chain.isConsistent());
        }
        chain.restore();
        Check.yes("restored", chain.isConsistent());
    }
}
