import java.math.BigInteger;
import java.util.Arrays;
import java.util.function.Supplier;

/** Boundaries of the promises 17 to 21: looking ahead. */
public final class AheadBoundariesTest extends Boundaries {
    public static void main(String[] args) {
        runAll(AheadBoundariesTest.class);
    }

    // ---- promise 17: "Throws IllegalArgumentException if hours is not 1 to 100"

    static void promise17_hoursTooFew() {
        StampWorks works = Scenes.busy();
        refused(works, "foresee(0, 0)", ARGUMENT, () -> works.foresee(0, 0));
        refused(works, "foresee(-1, 0)", ARGUMENT, () -> works.foresee(-1, 0));
        refused(works, "foresee(MIN, 0)", ARGUMENT, () -> works.foresee(MIN, 0));
    }

    static void promise17_hoursTooMany() {
        StampWorks works = Scenes.busy();
        refused(works, "foresee(101, 0)", ARGUMENT, () -> works.foresee(101, 0));
        refused(works, "foresee(MAX, 0)", ARGUMENT, () -> works.foresee(MAX, 0));
    }

    static void promise17_hours1And100() {
        StampWorks works = new StampWorks();
        asked(works, "foresee(1, 0)", 100, () -> works.foresee(1, 0));
        asked(works, "foresee(100, 0)", 10000, () -> works.foresee(100, 0));
    }

    // "Throws IndexOutOfBoundsException if what is not 0 to 4"
    static void promise17_whatTooSmall() {
        StampWorks works = Scenes.busy();
        refused(works, "foresee(5, -1)", INDEX, () -> works.foresee(5, -1));
        refused(works, "foresee(5, MIN)", INDEX, () -> works.foresee(5, MIN));
    }

    static void promise17_whatTooLarge() {
        StampWorks works = Scenes.busy();
        refused(works, "foresee(5, 5)", INDEX, () -> works.foresee(5, 5));
        refused(works, "foresee(5, MAX)", INDEX, () -> works.foresee(5, MAX));
    }

    static void promise17_what0And4() {
        StampWorks works = Scenes.feeding(300);
        works.bring(1000, 0, 1);
        Scenes.inflowAlways(works, 40);
        asked(works, "foresee(2, 0)", 40, () -> works.foresee(2, 0));
        asked(works, "foresee(2, 4)", 400, () -> works.foresee(2, 4));
    }

    // "Throws IllegalStateException if the hour would be greater than 5000"
    static void promise17_hourJust5000() {
        StampWorks works = Scenes.atHour(4900);
        due("foresee(100, 0)", works.foresee(100, 0), 10000);
        works.run(99);
        due("foresee(1, 0)", works.foresee(1, 0), 100);
    }

    static void promise17_hourWouldBe5001() {
        StampWorks works = Scenes.atHour(4901);
        refused(works, "foresee(100, 0)", STATE, () -> works.foresee(100, 0));
        works.run(99);
        refused(works, "foresee(1, 0)", STATE, () -> works.foresee(1, 0));
    }

    // "If several exceptions apply, the one that is named first is thrown."
    static void promise17_hoursAreNamedBeforeWhat() {
        StampWorks works = Scenes.busy();
        refused(works, "foresee(0, 5)", ARGUMENT, () -> works.foresee(0, 5));
        refused(works, "foresee(101, -1)", ARGUMENT, () -> works.foresee(101, -1));
    }

    static void promise17_hoursAndWhatAreNamedBeforeTheLateHour() {
        StampWorks works = Scenes.atHour(5000);
        refused(works, "foresee(101, 0)", ARGUMENT, () -> works.foresee(101, 0));
        refused(works, "foresee(MAX, 0)", ARGUMENT, () -> works.foresee(MAX, 0));
        refused(works, "foresee(1, 5)", INDEX, () -> works.foresee(1, 5));
        refused(works, "foresee(1, -1)", INDEX, () -> works.foresee(1, -1));
    }

    // "Returns this, if so many hours went by from now on (nothing is changed)."
    private static void foreseenComes(StampWorks works, int hours) {
        long before = works.digest();
        long[] told = new long[5];
        for (int what = 0; what < 5; what++) {
            told[what] = works.foresee(hours, what);
        }
        due("digest() after foresee", works.digest(), before);
        long slime = works.count(9);
        due("foresee(" + hours + ", 0)", told[0], works.run(hours));
        due("foresee(" + hours + ", 1)", told[1], works.count(1));
        due("foresee(" + hours + ", 2)", told[2], tinOfBuddles(works));
        due("foresee(" + hours + ", 3)", told[3], works.count(9) - slime);
        due("foresee(" + hours + ", 4)", told[4], works.count(5));
    }

    private static long tinOfBuddles(StampWorks works) {
        return works.buddle(0, 1) + works.buddle(1, 1) + works.buddle(2, 1);
    }

    static void promise17_nothingIsChanged() {
        StampWorks works = Scenes.busy();
        for (int what = 0; what < 5; what++) {
            int foreseen = what;
            int due = works.foresee(50, what);
            asked(works, "foresee(50, " + what + ")", due, () -> works.foresee(50, foreseen));
        }
    }

    static void promise17_worksOfSeveralBoxesAndBuddles() {
        foreseenComes(Scenes.busy(), 1);
        foreseenComes(Scenes.busy(), 100);
    }

    static void promise17_tableWrapsAroundMeanwhile() {
        StampWorks works = Scenes.atHour(23);
        works.setSluice(0);
        works.setInflow(23, 1);
        works.setInflow(0, 20);
        works.setInflow(1, 300);
        due("foresee(1, 1)", works.foresee(1, 1), 10001);
        due("foresee(2, 1)", works.foresee(2, 1), 10021);
        due("foresee(3, 1)", works.foresee(3, 1), 10321);
    }

    static void promise17_pondRunsDryMeanwhile() {
        StampWorks works = new StampWorks();
        Scenes.inflowAlways(works, 0);
        works.setSluice(20);
        due("foresee(12, 1)", works.foresee(12, 1), 400);
        due("foresee(13, 1)", works.foresee(13, 1), 0);
        due("foresee(14, 0)", works.foresee(14, 0), 5000);
    }

    static void promise17_pondGetsFullMeanwhile() {
        StampWorks works = new StampWorks();
        Scenes.inflowAlways(works, 900);
        works.setSluice(0);
        due("foresee(11, 1)", works.foresee(11, 1), 19900);
        due("foresee(12, 1)", works.foresee(12, 1), 20000);
    }

    static void promise17_hopperIsEmptiedMeanwhile() {
        StampWorks works = Scenes.strong();
        Scenes.fillHopper(works, 30);
        works.setBox(0, 100, 0);
        due("foresee(2, 4)", works.foresee(2, 4), 100);
        due("foresee(3, 4)", works.foresee(3, 4), 0);
        due("foresee(4, 4)", works.foresee(4, 4), 0);
        foreseenComes(works, 4);
    }

    static void promise17_buddleGetsFullMeanwhile() {
        StampWorks works = Scenes.buddleOf(0, 5900);
        works.bring(1000, 1000, 1);
        due("foresee(1, 2)", works.foresee(1, 2), 6000);
        due("foresee(9, 2)", works.foresee(9, 2), 6000);
        foreseenComes(works, 9);
    }

    static void promise17_fullBuddleBesideTheOneThatIsFilled() {
        StampWorks works = Scenes.buddleOf(0, 6000);
        works.setBox(0, 300, 2);
        works.bring(100, 1000, 1);
        due("foresee(1, 2)", works.foresee(1, 2), 6090);
        works.setBox(0, 300, 0);
        due("foresee(1, 2) of the full buddle", works.foresee(1, 2), 6000);
    }

    static void promise17_allBoxesStampsAndLots() {
        foreseenComes(allBoxesStampsAndLots(), 20);
    }

    private static StampWorks allBoxesStampsAndLots() {
        StampWorks works = Scenes.taking(800);
        for (int box = 0; box < 4; box++) {
            works.addBox();
            works.setBox(box, 10 + box, box % 3);
            for (int stamp = 0; stamp < 4; stamp++) {
                works.hang(box, 10 + stamp, 1);
            }
        }
        Scenes.fillHopper(works, 29);
        works.bring(900, 800, 3);
        return works;
    }

    static void promise17_stampIsWornOutMeanwhile() {
        StampWorks works = Scenes.taking(800);
        works.addBox();
        works.hang(0, 20, 2);
        works.bring(5000, 300, 9);
        works.bring(5000, 300, 9);
        foreseenComes(works, 100);
        due("box(0, 10)", works.box(0, 10), 90);
    }

    // "3 the slime of these hours"
    static void promise17_noSlimeOfEarlierHours() {
        StampWorks works = Scenes.strong();
        works.bring(100, 1000, 1);
        works.run(1);
        due("count(9)", works.count(9), 10);
        due("foresee(1, 3)", works.foresee(1, 3), 0);
        works.bring(20, 1000, 1);
        due("foresee(1, 3)", works.foresee(1, 3), 2);
    }

    // ---- promise 18: "Throws IllegalArgumentException if hours is not 1 to 48"

    static void promise18_hoursTooFew() {
        StampWorks works = Scenes.busy();
        refused(works, "advise(0)", ARGUMENT, () -> works.advise(0));
        refused(works, "advise(-1)", ARGUMENT, () -> works.advise(-1));
        refused(works, "advise(MIN)", ARGUMENT, () -> works.advise(MIN));
    }

    static void promise18_hoursTooMany() {
        StampWorks works = Scenes.busy();
        refused(works, "advise(49)", ARGUMENT, () -> works.advise(49));
        refused(works, "advise(MAX)", ARGUMENT, () -> works.advise(MAX));
    }

    static void promise18_hours1And48() {
        StampWorks works = Scenes.busy();
        asked(works, "advise(1)", bestOfAllSluices(Scenes::busy, 1), () -> works.advise(1));
        asked(works, "advise(48)", bestOfAllSluices(Scenes::busy, 48), () -> works.advise(48));
    }

    static void promise18_allBoxesStampsAndLots() {
        StampWorks works = allBoxesStampsAndLots();
        int best = bestOfAllSluices(AheadBoundariesTest::allBoxesStampsAndLots, 30);
        asked(works, "advise(30)", best, () -> works.advise(30));
    }

    /** Lets the hours go by in works of their own for each sluice. */
    private static int bestOfAllSluices(Supplier<StampWorks> scene, int hours) {
        int best = -1;
        long most = -1;
        for (int sluice = 0; sluice <= 20; sluice++) {
            StampWorks works = scene.get();
            works.setSluice(sluice);
            works.run(hours);
            if (tinOfBuddles(works) > most) {
                most = tinOfBuddles(works);
                best = sluice;
            }
        }
        return best;
    }

    // "Throws IllegalStateException if the hour would be greater than 5000"
    static void promise18_hourJust5000() {
        StampWorks works = Scenes.atHour(4952);
        due("advise(48)", works.advise(48), 0);
        works.run(47);
        due("advise(1)", works.advise(1), 0);
    }

    static void promise18_hourWouldBe5001() {
        StampWorks works = Scenes.atHour(4953);
        refused(works, "advise(48)", STATE, () -> works.advise(48));
        works.run(47);
        refused(works, "advise(1)", STATE, () -> works.advise(1));
    }

    // "If several exceptions apply, the one that is named first is thrown."
    static void promise18_hoursAreNamedBeforeTheLateHour() {
        StampWorks works = Scenes.atHour(5000);
        refused(works, "advise(49)", ARGUMENT, () -> works.advise(49));
        refused(works, "advise(0)", ARGUMENT, () -> works.advise(0));
        refused(works, "advise(MAX)", ARGUMENT, () -> works.advise(MAX));
    }

    // "of several the smallest one"
    static void promise18_allSluicesAlikeWithoutBoxes() {
        StampWorks works = new StampWorks();
        works.setSluice(20);
        asked(works, "advise(48)", 0, () -> works.advise(48));
    }

    static void promise18_allSluicesAlikeWithFullBuddle() {
        StampWorks works = Scenes.buddleOf(0, 6000);
        works.bring(1000, 1000, 1);
        asked(works, "advise(48)", 0, () -> works.advise(48));
    }

    /** 10000 of water, and a box that makes sand of tin: 45 an hour of the feed 50, 40 of the feed 44. */
    private static StampWorks pondAndTin(int feed) {
        StampWorks works = new StampWorks();
        works.addBox();
        works.hang(0, 60, 4);
        works.setBox(0, feed, 0);
        works.bring(5000, 1000, 1);
        return works;
    }

    static void promise18_smallestOfSeveral() {
        StampWorks works = pondAndTin(50);
        asked(works, "advise(1), 45 want 180 of water", 5, () -> works.advise(1));
        StampWorks less = pondAndTin(44);
        asked(less, "advise(1), 40 want 160 of water", 4, () -> less.advise(1));
    }

    static void promise18_sluice20IsTheBest() {
        StampWorks works = pondAndTin(300);
        asked(works, "advise(1)", 20, () -> works.advise(1));
    }

    static void promise18_openSluiceEmptiesThePondTooSoon() {
        StampWorks works = pondAndTin(50);
        Scenes.inflowAlways(works, 0);
        asked(works, "advise(48), 5 * 40 * 48 are 9600", 5, () -> works.advise(48));
    }

    // "(nothing is changed)"
    static void promise18_sluiceStaysAsItIs() {
        StampWorks works = pondAndTin(300);
        works.setSluice(3);
        works.advise(48);
        due("count(2)", works.count(2), 3);
        due("count(0)", works.count(0), 0);
        due("count(1)", works.count(1), 10000);
    }

    // ---- promise 19: "Throws IndexOutOfBoundsException if buddle is not 0 to 2"

    static void promise19_buddleTooSmall() {
        StampWorks works = Scenes.busy();
        refused(works, "bestWater(-1, 5)", INDEX, () -> works.bestWater(-1, 5));
        refused(works, "bestWater(MIN, 5)", INDEX, () -> works.bestWater(MIN, 5));
    }

    static void promise19_buddleTooLarge() {
        StampWorks works = Scenes.busy();
        refused(works, "bestWater(3, 5)", INDEX, () -> works.bestWater(3, 5));
        refused(works, "bestWater(MAX, 5)", INDEX, () -> works.bestWater(MAX, 5));
    }

    static void promise19_buddle0And2() {
        StampWorks works = Scenes.buddleOf(100, 100);
        Scenes.putInto(works, 2, 0, 100);
        asked(works, "bestWater(0, 0)", 89, () -> works.bestWater(0, 0));
        asked(works, "bestWater(2, 0)", 10, () -> works.bestWater(2, 0));
    }

    // "Throws IllegalArgumentException if tin is less than 0"
    static void promise19_tinTooSmall() {
        StampWorks works = Scenes.buddleOf(100, 100);
        refused(works, "bestWater(0, -1)", ARGUMENT, () -> works.bestWater(0, -1));
        refused(works, "bestWater(0, MIN)", ARGUMENT, () -> works.bestWater(0, MIN));
    }

    // "If several exceptions apply, the one that is named first is thrown."
    static void promise19_buddleIsNamedBeforeTin() {
        StampWorks works = Scenes.buddleOf(100, 100);
        refused(works, "bestWater(3, -1)", INDEX, () -> works.bestWater(3, -1));
        refused(works, "bestWater(-1, -1)", INDEX, () -> works.bestWater(-1, -1));
    }

    static void promise19_tinTooSmallForAnEmptyBuddle() {
        StampWorks works = Scenes.buddleOf(100, 100);
        refused(works, "bestWater(1, -1)", ARGUMENT, () -> works.bestWater(1, -1));
    }

    // "-1 if there is none (also if the buddle is empty)"
    static void promise19_emptyBuddle() {
        StampWorks works = Scenes.strong();
        asked(works, "bestWater(0, 0)", -1, () -> works.bestWater(0, 0));
        asked(works, "bestWater(0, 1)", -1, () -> works.bestWater(0, 1));
    }

    static void promise19_noHeadHasSoMuchTin() {
        StampWorks works = Scenes.buddleOf(100, 100);
        asked(works, "bestWater(0, 98)", -1, () -> works.bestWater(0, 98));
        asked(works, "bestWater(0, MAX)", -1, () -> works.bestWater(0, MAX));
        StampWorks rock = Scenes.buddleOf(100, 0);
        asked(rock, "bestWater(0, 1) of rock", -1, () -> rock.bestWater(0, 1));
    }

    // "of all that have at least so much tin"
    static void promise19_headHasJustSoMuchTin() {
        StampWorks works = Scenes.buddleOf(100, 100);
        asked(works, "bestWater(0, 97)", 10, () -> works.bestWater(0, 97));
        // 97 of 119 with the water 10, 96 of 118 with 12, 96 of 117 with 13 and 14.
        asked(works, "bestWater(0, 96)", 13, () -> works.bestWater(0, 96));
        asked(works, "bestWater(0, 71)", 89, () -> works.bestWater(0, 71));
        asked(works, "bestWater(0, 70)", 89, () -> works.bestWater(0, 70));
    }

    // "of several the least water"
    static void promise19_allWatersAlikeWithoutRock() {
        StampWorks works = Scenes.buddleOf(0, 100);
        asked(works, "bestWater(0, 0)", 10, () -> works.bestWater(0, 0));
        asked(works, "bestWater(0, 70)", 10, () -> works.bestWater(0, 70));
    }

    static void promise19_allWatersAlikeWithoutTin() {
        StampWorks works = Scenes.buddleOf(100, 0);
        asked(works, "bestWater(0, 0)", 10, () -> works.bestWater(0, 0));
    }

    static void promise19_headsOfNothing() {
        StampWorks works = Scenes.buddleOf(1, 1);
        asked(works, "bestWater(0, 0)", 10, () -> works.bestWater(0, 0));
        asked(works, "bestWater(0, 1)", -1, () -> works.bestWater(0, 1));
    }

    static void promise19_leastOfSeveralThatAreTheBest() {
        StampWorks works = Scenes.buddleOf(14, 3);
        // From the water 69 on no rock is in the head, and tin of 2.
        asked(works, "bestWater(0, 0)", 69, () -> works.bestWater(0, 0));
    }

    static void promise19_fullHopper() {
        StampWorks works = Scenes.buddleOf(100, 100);
        Scenes.fillHopper(works, 30);
        asked(works, "bestWater(0, 0)", 89, () -> works.bestWater(0, 0));
    }

    static void promise19_fullBuddle() {
        StampWorks works = Scenes.buddleOf(3000, 3000);
        asked(works, "bestWater(0, 2910)", 10, () -> works.bestWater(0, 2910));
        asked(works, "bestWater(0, 2911)", -1, () -> works.bestWater(0, 2911));
    }

    // ---- promise 20: "0 if there is none of these"

    static void promise20_newWorks() {
        dueShare(new StampWorks(), 0.0);
    }

    static void promise20_rockAlone() {
        StampWorks works = Scenes.buddleOf(100, 0);
        works.wash(0, 50);
        works.smelt(12);
        tailsTell(works, 44, 0);
        dueShare(works, 0.0);
    }

    static void promise20_slimeAlone() {
        StampWorks works = Scenes.buddleOf(0, 100);
        due("count(9)", works.count(9), 11);
        dueShare(works, 0.0);
    }

    static void promise20_slimeAndTails() {
        dueShare(Scenes.storeOf(0, 97), 0.0);
    }

    // "(what smelting loses is none of these)"
    static void promise20_metalSlimeAndTails() {
        StampWorks works = Scenes.storeOf(0, 97);
        works.smelt(10);
        dueShare(works, 9.0 / (9 + 11 + 2));
        works.smelt(87);
        dueShare(works, 87.0 / (87 + 11 + 2));
    }

    static void promise20_smeltedInVain() {
        StampWorks works = Scenes.storeOf(158, 105);
        works.smelt(263);
        due("count(12)", works.count(12), 0);
        dueShare(works, 0.0);
    }

    // ---- promise 21: "A number d starts with 499; .. wraps around as a 64-bit integer"

    private static final BigInteger TWO_TO_64 = BigInteger.ONE.shiftLeft(64);

    /** The checksum without wrapping around. */
    private static final class Sum {
        private BigInteger sum = BigInteger.valueOf(499);

        void add(long number) {
            sum = sum.multiply(BigInteger.valueOf(31)).add(BigInteger.valueOf(number));
        }

        boolean goesBeyond64Bits() {
            return sum.compareTo(TWO_TO_64) > 0;
        }

        long wrapped() {
            return sum.mod(TWO_TO_64).longValue();
        }
    }

    /** Each row of stamps is a box: of each stamp weight, cams and wear. */
    private static Sum sumOf(StampWorks works, int[] inflow, int[][] stamps) {
        Sum sum = new Sum();
        for (int what = 0; what < 14; what++) {
            sum.add(works.count(what));
        }
        for (int amount : inflow) {
            sum.add(amount);
        }
        for (int box = 0; box < stamps.length; box++) {
            for (int what = 0; what < 12; what++) {
                sum.add(works.box(box, what));
            }
            for (int number : stamps[box]) {
                sum.add(number);
            }
        }
        for (int lot = 0; lot < works.count(4); lot++) {
            for (int what = 0; what < 3; what++) {
                sum.add(works.lot(lot, what));
            }
        }
        for (int buddle = 0; buddle < 3; buddle++) {
            for (int what = 0; what < 3; what++) {
                sum.add(works.buddle(buddle, what));
            }
        }
        return sum;
    }

    private static int[] inflowOf(int amount) {
        int[] inflow = new int[24];
        Arrays.fill(inflow, amount);
        return inflow;
    }

    static void promise21_wrapsAroundAs64Bits() {
        StampWorks works = new StampWorks();
        Sum sum = sumOf(works, inflowOf(200), new int[0][]);
        due("sums beyond 64 bits", sum.goesBeyond64Bits() ? 1 : 0, 1);
        due("digest()", works.digest(), sum.wrapped());
    }

    static void promise21_newWorksWithoutBoxesAndLots() {
        StampWorks works = new StampWorks();
        due("digest()", works.digest(), sumOf(works, inflowOf(200), new int[0][]).wrapped());
        due("digest() again", works.digest(), new StampWorks().digest());
    }

    static void promise21_boxWithoutStamps() {
        StampWorks works = new StampWorks();
        works.addBox();
        due("digest()", works.digest(), sumOf(works, inflowOf(200), new int[][] {{}}).wrapped());
    }

    static void promise21_allBoxesStampsAndLots() {
        StampWorks works = new StampWorks();
        int[][] stamps = new int[4][12];
        for (int box = 0; box < 4; box++) {
            works.addBox();
            for (int stamp = 0; stamp < 4; stamp++) {
                stamps[box][3 * stamp] = 10 + 4 * box + stamp;
                stamps[box][3 * stamp + 1] = 4 - stamp;
                works.hang(box, 10 + 4 * box + stamp, 4 - stamp);
            }
        }
        for (int lot = 0; lot < 30; lot++) {
            works.bring(1000 + lot, 500 + lot, 1 + lot % 9);
        }
        int[] inflow = new int[24];
        for (int hour = 0; hour < 24; hour++) {
            inflow[hour] = 900 - hour;
            works.setInflow(hour, 900 - hour);
        }
        due("digest()", works.digest(), sumOf(works, inflow, stamps).wrapped());
    }

    static void promise21_wornStampsBuddlesAndStore() {
        StampWorks works = Scenes.storeOf(60, 90);
        Scenes.putInto(works, 1, 30, 40);
        works.smelt(40);
        works.addBox();
        works.setBox(0, 10, 2);
        works.setSluice(0);
        works.run(1);
        due("digest()", works.digest(), sumOf(works, inflowOf(800), new int[][] {{60, 4, 0}, {}}).wrapped());
        StampWorks worn = Scenes.taking(800);
        worn.addBox();
        worn.hang(0, 40, 2);
        worn.run(95);
        due("digest()", worn.digest(), sumOf(worn, inflowOf(800), new int[][] {{40, 2, 90}}).wrapped());
    }
}
