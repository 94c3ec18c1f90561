/** Boundaries of the promises 14 to 16: washing, washing once more, and smelting. */
public final class WashingBoundariesTest extends Boundaries {
    public static void main(String[] args) {
        runAll(WashingBoundariesTest.class);
    }

    // ---- promise 14: "Throws IndexOutOfBoundsException if buddle is not 0 to 2"

    static void promise14_buddleTooSmall() {
        StampWorks works = Scenes.busy();
        refused(works, "wash(-1, 50)", INDEX, () -> works.wash(-1, 50));
        refused(works, "wash(MIN, 50)", INDEX, () -> works.wash(MIN, 50));
    }

    static void promise14_buddleTooLarge() {
        StampWorks works = Scenes.busy();
        refused(works, "wash(3, 50)", INDEX, () -> works.wash(3, 50));
        refused(works, "wash(MAX, 50)", INDEX, () -> works.wash(MAX, 50));
    }

    static void promise14_buddle0And2() {
        StampWorks works = Scenes.buddleOf(0, 100);
        Scenes.putInto(works, 2, 0, 200);
        due("wash(2, 90)", works.wash(2, 90), 140);
        buddleTells(works, 2, 0, 0);
        buddleTells(works, 0, 0, 100);
        due("wash(0, 90)", works.wash(0, 90), 70);
        buddleTells(works, 0, 0, 0);
    }

    // "Throws IllegalArgumentException if water is not 10 to 90"
    static void promise14_waterTooSmall() {
        StampWorks works = Scenes.buddleOf(100, 100);
        refused(works, "wash(0, 9)", ARGUMENT, () -> works.wash(0, 9));
        refused(works, "wash(0, -50)", ARGUMENT, () -> works.wash(0, -50));
        refused(works, "wash(0, MIN)", ARGUMENT, () -> works.wash(0, MIN));
    }

    static void promise14_waterTooLarge() {
        StampWorks works = Scenes.buddleOf(100, 100);
        refused(works, "wash(0, 91)", ARGUMENT, () -> works.wash(0, 91));
        refused(works, "wash(0, MAX)", ARGUMENT, () -> works.wash(0, MAX));
    }

    // "of the tin (100 less water / 3) of 100 .., of the rock (100 less water) / 4 of 100 (both .. cut first ..)"
    private static void headOf100And100(int water, int rock, int tin) {
        StampWorks works = Scenes.buddleOf(100, 100);
        due("wash(0, " + water + ")", works.wash(0, water), tin);
        storeTells(works, rock, tin);
    }

    static void promise14_water10() {
        headOf100And100(10, 22, 97);
    }

    static void promise14_water90() {
        headOf100And100(90, 2, 70);
    }

    static void promise14_quotientsOfWaterAreCut() {
        headOf100And100(11, 22, 97);
        headOf100And100(12, 22, 96);
        headOf100And100(13, 21, 96);
        headOf100And100(88, 3, 71);
        headOf100And100(89, 2, 71);
    }

    // "then tin and rock times these / 100"
    static void promise14_headIsCut() {
        StampWorks works = Scenes.buddleOf(14, 45);
        due("wash(0, 10), of 43.65", works.wash(0, 10), 43);
        storeTells(works, 3, 43);
    }

    static void promise14_headOfNothing() {
        StampWorks works = Scenes.buddleOf(1, 1);
        due("wash(0, 10)", works.wash(0, 10), 0);
        storeTells(works, 0, 0);
        tailsTell(works, 1, 1);
        buddleTells(works, 0, 0, 0);
    }

    static void promise14_fullBuddle() {
        StampWorks works = Scenes.buddleOf(3000, 3000);
        due("wash(0, 10)", works.wash(0, 10), 2910);
        storeTells(works, 660, 2910);
        lotTells(works, 0, 1170, 45, 1);
        tailsTell(works, 1170, 45);
    }

    // "Of what is left of both the half (cut) is the middle"; "The rest is the tail"
    static void promise14_halfIsCut() {
        StampWorks works = Scenes.buddleOf(14, 100);
        works.wash(0, 10);
        // Rock of 11 and tin of 3 are left.
        lotTells(works, 0, 5, 1, 1);
        tailsTell(works, 6, 2);
    }

    // "a new lot of the hopper, .. if there is any of it"
    static void promise14_noMiddle() {
        StampWorks works = Scenes.buddleOf(1, 1);
        works.wash(0, 10);
        due("count(4)", works.count(4), 0);
    }

    static void promise14_middleOfRockAlone() {
        StampWorks works = Scenes.buddleOf(2, 1);
        works.wash(0, 10);
        due("count(4)", works.count(4), 1);
        lotTells(works, 0, 1, 0, 1);
        tailsTell(works, 1, 1);
    }

    static void promise14_middleOfTinAlone() {
        StampWorks works = Scenes.buddleOf(1, 34);
        works.wash(0, 10);
        due("count(4)", works.count(4), 1);
        lotTells(works, 0, 0, 1, 1);
        tailsTell(works, 1, 1);
    }

    static void promise14_middleIsBehindTheOtherLots() {
        StampWorks works = Scenes.buddleOf(100, 100);
        works.bring(50, 0, 9);
        works.bring(60, 0, 8);
        works.wash(0, 10);
        lotTells(works, 0, 50, 0, 9);
        lotTells(works, 1, 60, 0, 8);
        lotTells(works, 2, 39, 1, 1);
    }

    // "The head comes to the store, where all heads are one."; tails are told together
    static void promise14_secondHeadAndTailAreAdded() {
        StampWorks works = Scenes.buddleOf(100, 100);
        Scenes.putInto(works, 1, 200, 200);
        works.wash(0, 10);
        works.wash(1, 10);
        storeTells(works, 22 + 44, 97 + 194);
        tailsTell(works, 39 + 78, 2 + 3);
        lotTells(works, 0, 39, 1, 1);
        lotTells(works, 1, 78, 3, 1);
    }

    // "Throws IllegalStateException if it is empty, or there are 30 lots in the hopper"
    static void promise14_emptyBuddle() {
        StampWorks works = Scenes.buddleOf(100, 100);
        refused(works, "wash(1, 50)", STATE, () -> works.wash(1, 50));
    }

    // "Washes a buddle; it is empty then."
    static void promise14_buddleIsEmptyAfterWashing() {
        StampWorks works = Scenes.buddleOf(100, 100);
        works.wash(0, 50);
        buddleTells(works, 0, 0, 0);
        due("buddle(0, 2)", works.buddle(0, 2), 0);
        refused(works, "wash(0, 50) again", STATE, () -> works.wash(0, 50));
    }

    static void promise14_buddleOfOne() {
        StampWorks works = Scenes.buddleOf(1, 0);
        due("wash(0, 50)", works.wash(0, 50), 0);
        tailsTell(works, 1, 0);
        StampWorks tin = Scenes.buddleOf(0, 1);
        due("wash(0, 50)", tin.wash(0, 50), 0);
        tailsTell(tin, 0, 1);
    }

    static void promise14_thirtyLots() {
        StampWorks works = Scenes.buddleOf(100, 100);
        Scenes.fillHopper(works, 30);
        refused(works, "wash(0, 50)", STATE, () -> works.wash(0, 50));
    }

    static void promise14_thirtyLotsWhenThereWouldBeNoMiddle() {
        StampWorks works = Scenes.buddleOf(1, 1);
        Scenes.fillHopper(works, 30);
        refused(works, "wash(0, 50)", STATE, () -> works.wash(0, 50));
    }

    static void promise14_twentyNineLots() {
        StampWorks works = Scenes.buddleOf(100, 100);
        Scenes.fillHopper(works, 29);
        due("wash(0, 10)", works.wash(0, 10), 97);
        due("count(4)", works.count(4), 30);
        lotTells(works, 29, 39, 1, 1);
    }

    // "If several exceptions apply, the one that is named first is thrown."
    static void promise14_buddleIsNamedBeforeWater() {
        StampWorks works = Scenes.busy();
        refused(works, "wash(3, 9)", INDEX, () -> works.wash(3, 9));
        refused(works, "wash(-1, 91)", INDEX, () -> works.wash(-1, 91));
    }

    static void promise14_buddleAndWaterAreNamedBeforeFullHopper() {
        StampWorks works = Scenes.buddleOf(100, 100);
        Scenes.fillHopper(works, 30);
        refused(works, "wash(3, 50)", INDEX, () -> works.wash(3, 50));
        refused(works, "wash(0, 9)", ARGUMENT, () -> works.wash(0, 9));
    }

    static void promise14_waterIsNamedBeforeEmptyBuddle() {
        StampWorks works = Scenes.buddleOf(100, 100);
        refused(works, "wash(1, 91)", ARGUMENT, () -> works.wash(1, 91));
        refused(works, "wash(1, 9)", ARGUMENT, () -> works.wash(1, 9));
    }

    // ---- promise 15: "Throws IndexOutOfBoundsException if buddle is not 0 to 2"

    static void promise15_buddleTooSmall() {
        StampWorks works = Scenes.storeOf(60, 40);
        refused(works, "again(-1)", INDEX, () -> works.again(-1));
        refused(works, "again(MIN)", INDEX, () -> works.again(MIN));
    }

    static void promise15_buddleTooLarge() {
        StampWorks works = Scenes.storeOf(60, 40);
        refused(works, "again(3)", INDEX, () -> works.again(3));
        refused(works, "again(MAX)", INDEX, () -> works.again(MAX));
    }

    static void promise15_buddle0And2() {
        StampWorks works = Scenes.storeOf(60, 40);
        due("again(0)", works.again(0), 100);
        buddleTells(works, 0, 60, 40);
        StampWorks other = Scenes.storeOf(60, 40);
        due("again(2)", other.again(2), 100);
        buddleTells(other, 2, 60, 40);
    }

    // "Puts what is in the store back into a buddle, as far as it can hold it (tin by its part)"
    static void promise15_emptyStore() {
        StampWorks works = Scenes.buddleOf(100, 100);
        asked(works, "again(0)", 0, () -> works.again(0));
        asked(works, "again(1)", 0, () -> works.again(1));
    }

    static void promise15_secondTimeTheStoreIsEmpty() {
        StampWorks works = Scenes.storeOf(60, 40);
        works.again(0);
        storeTells(works, 0, 0);
        asked(works, "again(0)", 0, () -> works.again(0));
    }

    private static StampWorks storeAndBuddleOf(int rock) {
        StampWorks works = Scenes.buddleOf(rock, 0);
        Scenes.putIntoStore(works, 60, 40);
        storeTells(works, 60, 40);
        return works;
    }

    static void promise15_fullBuddle() {
        StampWorks works = storeAndBuddleOf(6000);
        asked(works, "again(0)", 0, () -> works.again(0));
    }

    static void promise15_buddleJustHoldsTheStore() {
        StampWorks works = storeAndBuddleOf(5900);
        due("again(0)", works.again(0), 100);
        buddleTells(works, 0, 5960, 40);
        storeTells(works, 0, 0);
    }

    static void promise15_buddleHoldsOneLessThanTheStore() {
        StampWorks works = storeAndBuddleOf(5901);
        due("again(0)", works.again(0), 99);
        // 40 * 99 / 100 of tin is put there, cut.
        buddleTells(works, 0, 5961, 39);
        storeTells(works, 0, 1);
    }

    static void promise15_buddleHoldsOneMore() {
        StampWorks works = storeAndBuddleOf(5999);
        due("again(0)", works.again(0), 1);
        buddleTells(works, 0, 6000, 0);
        storeTells(works, 59, 40);
    }

    // "to be washed once more"
    static void promise15_washedOnceMore() {
        StampWorks works = Scenes.storeOf(100, 100);
        works.again(1);
        due("wash(1, 10)", works.wash(1, 10), 97);
        storeTells(works, 22, 97);
    }

    // ---- promise 16: "Throws IllegalArgumentException if amount is less than 1"

    static void promise16_amountTooSmall() {
        StampWorks works = Scenes.storeOf(60, 40);
        refused(works, "smelt(0)", ARGUMENT, () -> works.smelt(0));
        refused(works, "smelt(-1)", ARGUMENT, () -> works.smelt(-1));
        refused(works, "smelt(MIN)", ARGUMENT, () -> works.smelt(MIN));
    }

    static void promise16_amountTooSmallForAnEmptyStore() {
        StampWorks works = Scenes.strong();
        refused(works, "smelt(0)", ARGUMENT, () -> works.smelt(0));
        refused(works, "smelt(-1)", ARGUMENT, () -> works.smelt(-1));
    }

    // "Throws IllegalStateException if there is not so much in the store"
    static void promise16_emptyStore() {
        StampWorks works = Scenes.buddleOf(100, 100);
        refused(works, "smelt(1)", STATE, () -> works.smelt(1));
    }

    static void promise16_oneMoreThanTheStoreHolds() {
        StampWorks works = Scenes.storeOf(60, 40);
        refused(works, "smelt(101)", STATE, () -> works.smelt(101));
        refused(works, "smelt(MAX)", STATE, () -> works.smelt(MAX));
    }

    static void promise16_allThatTheStoreHolds() {
        StampWorks works = Scenes.storeOf(60, 40);
        due("smelt(100)", works.smelt(100), 36);
        storeTells(works, 0, 0);
        refused(works, "smelt(1)", STATE, () -> works.smelt(1));
    }

    static void promise16_amount1() {
        StampWorks works = Scenes.storeOf(0, 20);
        due("smelt(1), nine tenths of 1", works.smelt(1), 0);
        storeTells(works, 0, 19);
        due("smelt(2), nine tenths of 2", works.smelt(2), 1);
        due("count(12)", works.count(12), 1);
    }

    // "if the grade of what is taken is at least 400"
    static void promise16_gradeJust400() {
        StampWorks works = Scenes.storeOf(6, 4);
        due("smelt(10)", works.smelt(10), 3);
        due("count(12)", works.count(12), 3);
    }

    // "otherwise there is no metal (it is gone all the same)"
    static void promise16_grade399() {
        StampWorks works = Scenes.storeOf(158, 105);
        due("smelt(263), of the grade 399.2", works.smelt(263), 0);
        due("count(12)", works.count(12), 0);
        storeTells(works, 0, 0);
    }

    static void promise16_gradeIsThatOfWhatIsTaken() {
        StampWorks works = Scenes.storeOf(6, 4);
        due("smelt(9), of the grade 333", works.smelt(9), 0);
        storeTells(works, 0, 1);
    }

    static void promise16_gradeOfRockAlone() {
        StampWorks works = Scenes.storeOf(10, 0);
        due("smelt(10)", works.smelt(10), 0);
        storeTells(works, 0, 0);
    }

    // "(tin by its part, as told above)"
    static void promise16_tinOfWhatIsTakenIsCut() {
        StampWorks works = Scenes.storeOf(3, 8);
        due("smelt(10), with tin of 7.2", works.smelt(10), 6);
        storeTells(works, 0, 1);
    }

    // "nine tenths (cut) of its tin are metal"
    static void promise16_nineTenthsAreCut() {
        due("smelt(10)", Scenes.storeOf(0, 10).smelt(10), 9);
        due("smelt(11), of 9.9", Scenes.storeOf(0, 11).smelt(11), 9);
        due("smelt(12), of 10.8", Scenes.storeOf(0, 12).smelt(12), 10);
    }
}
