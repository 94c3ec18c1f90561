/** Boundaries of the promises 4 to 8: boxes and their stamps. */
public final class BoxesBoundariesTest extends Boundaries {
    public static void main(String[] args) {
        runAll(BoxesBoundariesTest.class);
    }

    private static StampWorks worksWithBoxes(int boxes) {
        StampWorks works = new StampWorks();
        for (int i = 0; i < boxes; i++) {
            works.addBox();
        }
        return works;
    }

    /** A stamp that wears by 1 in each hour, 200 turns an hour. */
    private static StampWorks wearingWorks(int hours) {
        StampWorks works = Scenes.taking(800);
        works.addBox();
        works.hang(0, 40, 2);
        works.run(hours);
        return works;
    }

    // ---- promise 4: "Throws IllegalStateException if there are 4"

    static void promise4_fourBoxesAreFull() {
        StampWorks works = worksWithBoxes(4);
        refused(works, "addBox()", STATE, () -> works.addBox());
        due("count(3)", works.count(3), 4);
    }

    static void promise4_threeBoxesTakeOneMore() {
        StampWorks works = worksWithBoxes(3);
        due("addBox()", works.addBox(), 3);
        due("count(3)", works.count(3), 4);
    }

    // "numbered from 0 in the order of their creation"
    static void promise4_firstBoxIs0() {
        due("addBox()", new StampWorks().addBox(), 0);
    }

    // "Adds a box, with the feed 50."; "5, at first"; "0, at first"
    static void promise4_newBoxIsEmpty() {
        StampWorks works = Scenes.busy();
        int box = works.addBox();
        long[] told = {0, 50, 0, 5, 0, 0, 0, 0, 0, 0, 0, 0};
        for (int what = 0; what < told.length; what++) {
            due("box(2, " + what + ")", works.box(box, what), told[what]);
        }
    }

    // ---- promise 5: "Throws IndexOutOfBoundsException if there is no such box"

    static void promise5_boxTooSmall() {
        StampWorks works = Scenes.busy();
        refused(works, "hang(-1, 40, 3)", INDEX, () -> works.hang(-1, 40, 3));
        refused(works, "hang(MIN, 40, 3)", INDEX, () -> works.hang(MIN, 40, 3));
    }

    static void promise5_boxTooLarge() {
        StampWorks works = Scenes.busy();
        refused(works, "hang(2, 40, 3)", INDEX, () -> works.hang(2, 40, 3));
        refused(works, "hang(MAX, 40, 3)", INDEX, () -> works.hang(MAX, 40, 3));
        StampWorks full = worksWithBoxes(4);
        refused(full, "hang(4, 40, 3)", INDEX, () -> full.hang(4, 40, 3));
    }

    static void promise5_noBoxAtAll() {
        StampWorks works = new StampWorks();
        refused(works, "hang(0, 40, 3)", INDEX, () -> works.hang(0, 40, 3));
    }

    static void promise5_firstAndLastBox() {
        StampWorks works = worksWithBoxes(4);
        due("hang(0, 40, 3)", works.hang(0, 40, 3), 1);
        due("hang(3, 40, 3)", works.hang(3, 40, 3), 1);
        due("box(1, 0)", works.box(1, 0), 0);
    }

    // "Throws IllegalArgumentException if weight is not 10 to 60, or cams is not 1 to 4"
    static void promise5_weightTooSmall() {
        StampWorks works = Scenes.busy();
        refused(works, "hang(0, 9, 3)", ARGUMENT, () -> works.hang(0, 9, 3));
        refused(works, "hang(0, -40, 3)", ARGUMENT, () -> works.hang(0, -40, 3));
    }

    static void promise5_weightTooLarge() {
        StampWorks works = Scenes.busy();
        refused(works, "hang(0, 61, 3)", ARGUMENT, () -> works.hang(0, 61, 3));
        refused(works, "hang(0, MAX, 3)", ARGUMENT, () -> works.hang(0, MAX, 3));
    }

    static void promise5_weight10And60() {
        StampWorks works = worksWithBoxes(1);
        due("hang(0, 10, 4)", works.hang(0, 10, 4), 1);
        due("count(6)", works.count(6), 30);
        due("hang(0, 60, 4)", works.hang(0, 60, 4), 2);
        due("count(6)", works.count(6), 90);
    }

    static void promise5_camsTooFew() {
        StampWorks works = Scenes.busy();
        refused(works, "hang(0, 40, 0)", ARGUMENT, () -> works.hang(0, 40, 0));
        refused(works, "hang(0, 40, MIN)", ARGUMENT, () -> works.hang(0, 40, MIN));
    }

    static void promise5_camsTooMany() {
        StampWorks works = Scenes.busy();
        refused(works, "hang(0, 40, 5)", ARGUMENT, () -> works.hang(0, 40, 5));
        refused(works, "hang(0, 40, MAX)", ARGUMENT, () -> works.hang(0, 40, MAX));
    }

    static void promise5_cams1And4() {
        StampWorks works = worksWithBoxes(1);
        due("hang(0, 40, 1)", works.hang(0, 40, 1), 1);
        due("count(6)", works.count(6), 30);
        due("hang(0, 40, 4)", works.hang(0, 40, 4), 2);
        due("count(6)", works.count(6), 70);
    }

    // "Throws IllegalStateException if it has 4"
    static void promise5_fourStampsAreFull() {
        StampWorks works = worksWithBoxes(2);
        for (int stamps = 1; stamps <= 4; stamps++) {
            due("hang(0, 40, 3)", works.hang(0, 40, 3), stamps);
        }
        refused(works, "fifth hang(0, 40, 3)", STATE, () -> works.hang(0, 40, 3));
        due("hang(1, 40, 3), of the other box", works.hang(1, 40, 3), 1);
    }

    // "If several exceptions apply, the one that is named first is thrown."
    static void promise5_boxIsNamedBeforeWeightAndCams() {
        StampWorks works = worksWithBoxes(1);
        refused(works, "hang(1, 9, 3)", INDEX, () -> works.hang(1, 9, 3));
        refused(works, "hang(-1, 40, 5)", INDEX, () -> works.hang(-1, 40, 5));
    }

    static void promise5_weightAndCamsAreNamedBeforeFullBox() {
        StampWorks works = worksWithBoxes(1);
        for (int i = 0; i < 4; i++) {
            works.hang(0, 40, 3);
        }
        refused(works, "hang(0, 61, 3)", ARGUMENT, () -> works.hang(0, 61, 3));
        refused(works, "hang(0, 40, 0)", ARGUMENT, () -> works.hang(0, 40, 0));
        refused(works, "hang(1, 40, 3)", INDEX, () -> works.hang(1, 40, 3));
    }

    // ---- promise 6: "Throws IndexOutOfBoundsException if there is no such box or stamp"

    static void promise6_boxTooSmall() {
        StampWorks works = wearingWorks(3);
        refused(works, "shoe(-1, 0)", INDEX, () -> works.shoe(-1, 0));
        refused(works, "shoe(MIN, 0)", INDEX, () -> works.shoe(MIN, 0));
    }

    static void promise6_boxTooLarge() {
        StampWorks works = wearingWorks(3);
        refused(works, "shoe(1, 0)", INDEX, () -> works.shoe(1, 0));
        refused(works, "shoe(MAX, 0)", INDEX, () -> works.shoe(MAX, 0));
    }

    static void promise6_noBoxAtAll() {
        StampWorks works = new StampWorks();
        refused(works, "shoe(0, 0)", INDEX, () -> works.shoe(0, 0));
    }

    static void promise6_stampTooSmall() {
        StampWorks works = wearingWorks(3);
        refused(works, "shoe(0, -1)", INDEX, () -> works.shoe(0, -1));
        refused(works, "shoe(0, MIN)", INDEX, () -> works.shoe(0, MIN));
    }

    static void promise6_stampTooLarge() {
        StampWorks works = wearingWorks(3);
        refused(works, "shoe(0, 1)", INDEX, () -> works.shoe(0, 1));
        refused(works, "shoe(0, MAX)", INDEX, () -> works.shoe(0, MAX));
        works.hang(0, 40, 2);
        works.hang(0, 40, 2);
        works.hang(0, 40, 2);
        refused(works, "shoe(0, 4)", INDEX, () -> works.shoe(0, 4));
    }

    static void promise6_noStampAtAll() {
        StampWorks works = worksWithBoxes(1);
        refused(works, "shoe(0, 0)", INDEX, () -> works.shoe(0, 0));
    }

    static void promise6_firstAndLastStamp() {
        StampWorks works = wearingWorks(3);
        works.hang(0, 10, 1);
        works.hang(0, 10, 1);
        works.hang(0, 10, 1);
        due("shoe(0, 3)", works.shoe(0, 3), 0);
        due("shoe(0, 0)", works.shoe(0, 0), 3);
        due("box(0, 10)", works.box(0, 10), 0);
    }

    // "Shoes a stamp anew: its wear is 0."
    static void promise6_wear0() {
        StampWorks works = wearingWorks(1);
        due("shoe(0, 0)", works.shoe(0, 0), 1);
        due("shoe(0, 0) again", works.shoe(0, 0), 0);
    }

    static void promise6_wear90() {
        StampWorks works = wearingWorks(95);
        due("shoe(0, 0)", works.shoe(0, 0), 90);
        due("box(0, 10)", works.box(0, 10), 0);
        works.run(1);
        due("box(0, 11) of the stamp shod anew", works.box(0, 11), 1600);
    }

    // ---- promise 7: "Throws IndexOutOfBoundsException if there is no such box"

    static void promise7_boxTooSmall() {
        StampWorks works = Scenes.busy();
        refused(works, "setBox(-1, 10, 1)", INDEX, () -> works.setBox(-1, 10, 1));
        refused(works, "setBox(MIN, 10, 1)", INDEX, () -> works.setBox(MIN, 10, 1));
    }

    static void promise7_boxTooLarge() {
        StampWorks works = Scenes.busy();
        refused(works, "setBox(2, 10, 1)", INDEX, () -> works.setBox(2, 10, 1));
        refused(works, "setBox(MAX, 10, 1)", INDEX, () -> works.setBox(MAX, 10, 1));
    }

    static void promise7_noBoxAtAll() {
        StampWorks works = new StampWorks();
        refused(works, "setBox(0, 10, 1)", INDEX, () -> works.setBox(0, 10, 1));
    }

    // "Throws IllegalArgumentException if feed is not 0 to 300, or buddle is not 0 to 2"
    static void promise7_feedTooSmall() {
        StampWorks works = Scenes.busy();
        refused(works, "setBox(0, -1, 1)", ARGUMENT, () -> works.setBox(0, -1, 1));
        refused(works, "setBox(0, MIN, 1)", ARGUMENT, () -> works.setBox(0, MIN, 1));
    }

    static void promise7_feedTooLarge() {
        StampWorks works = Scenes.busy();
        refused(works, "setBox(0, 301, 1)", ARGUMENT, () -> works.setBox(0, 301, 1));
        refused(works, "setBox(0, MAX, 1)", ARGUMENT, () -> works.setBox(0, MAX, 1));
    }

    static void promise7_feed0And300() {
        StampWorks works = worksWithBoxes(1);
        due("setBox(0, 0, 1)", works.setBox(0, 0, 1), 50);
        due("box(0, 1)", works.box(0, 1), 0);
        due("setBox(0, 300, 1)", works.setBox(0, 300, 1), 0);
        due("box(0, 1)", works.box(0, 1), 300);
    }

    static void promise7_buddleTooSmall() {
        StampWorks works = Scenes.busy();
        refused(works, "setBox(0, 10, -1)", ARGUMENT, () -> works.setBox(0, 10, -1));
        refused(works, "setBox(0, 10, MIN)", ARGUMENT, () -> works.setBox(0, 10, MIN));
    }

    static void promise7_buddleTooLarge() {
        StampWorks works = Scenes.busy();
        refused(works, "setBox(0, 10, 3)", ARGUMENT, () -> works.setBox(0, 10, 3));
        refused(works, "setBox(0, 10, MAX)", ARGUMENT, () -> works.setBox(0, 10, MAX));
    }

    static void promise7_buddle0And2() {
        StampWorks works = worksWithBoxes(1);
        works.setBox(0, 10, 2);
        due("box(0, 2)", works.box(0, 2), 2);
        works.setBox(0, 10, 0);
        due("box(0, 2)", works.box(0, 2), 0);
    }

    // "If several exceptions apply, the one that is named first is thrown."
    static void promise7_boxIsNamedBeforeFeedAndBuddle() {
        StampWorks works = worksWithBoxes(1);
        refused(works, "setBox(1, 301, 0)", INDEX, () -> works.setBox(1, 301, 0));
        refused(works, "setBox(-1, 10, 3)", INDEX, () -> works.setBox(-1, 10, 3));
    }

    // ---- promise 8: "Throws IndexOutOfBoundsException if there is no such box, or what is not 0 to 11"

    static void promise8_boxTooSmall() {
        StampWorks works = Scenes.busy();
        refused(works, "box(-1, 0)", INDEX, () -> works.box(-1, 0));
        refused(works, "box(MIN, 0)", INDEX, () -> works.box(MIN, 0));
    }

    static void promise8_boxTooLarge() {
        StampWorks works = Scenes.busy();
        refused(works, "box(2, 0)", INDEX, () -> works.box(2, 0));
        refused(works, "box(MAX, 0)", INDEX, () -> works.box(MAX, 0));
        StampWorks full = worksWithBoxes(4);
        refused(full, "box(4, 0)", INDEX, () -> full.box(4, 0));
    }

    static void promise8_whatTooSmall() {
        StampWorks works = Scenes.busy();
        refused(works, "box(0, -1)", INDEX, () -> works.box(0, -1));
        refused(works, "box(0, MIN)", INDEX, () -> works.box(0, MIN));
    }

    static void promise8_whatTooLarge() {
        StampWorks works = Scenes.busy();
        refused(works, "box(0, 12)", INDEX, () -> works.box(0, 12));
        refused(works, "box(0, MAX)", INDEX, () -> works.box(0, MAX));
    }

    static void promise8_what0And11() {
        StampWorks works = Scenes.striking(30);
        works.hang(0, 10, 4);
        works.run(1);
        asked(works, "box(0, 0)", 2, () -> works.box(0, 0));
        asked(works, "box(0, 11), 7 turns", 56, () -> works.box(0, 11));
    }

    // "11 the force that it had in the latest hour (0 if there was none)"
    static void promise8_forceBeforeAnyHour() {
        StampWorks works = worksWithBoxes(1);
        works.hang(0, 60, 4);
        due("box(0, 11)", works.box(0, 11), 0);
    }

    static void promise8_forceOfBoxAddedAfterTheHours() {
        StampWorks works = Scenes.striking(30);
        works.run(2);
        works.addBox();
        works.hang(1, 60, 4);
        due("box(1, 11)", works.box(1, 11), 0);
        due("box(0, 11)", works.box(0, 11), 40);
    }

    static void promise8_forceOfTheLatestHourAlone() {
        StampWorks works = Scenes.striking(30);
        works.run(2);
        due("box(0, 11)", works.box(0, 11), 40);
        works.hang(0, 60, 4);
        due("box(0, 11) after hang", works.box(0, 11), 40);
        Scenes.inflowAlways(works, 0);
        works.run(1);
        due("box(0, 11) of an hour without water", works.box(0, 11), 0);
    }

    // "10 the wear of its stamps together"
    static void promise8_wearOfNoStamp() {
        due("box(0, 10)", worksWithBoxes(1).box(0, 10), 0);
    }

    static void promise8_wearOfFourStamps() {
        StampWorks works = Scenes.taking(800);
        works.addBox();
        for (int i = 0; i < 4; i++) {
            works.hang(0, 10, 2);
        }
        works.run(5);
        due("box(0, 10), 4 times 5", works.box(0, 10), 20);
    }
}
