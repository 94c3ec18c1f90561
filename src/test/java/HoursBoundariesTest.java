/** Boundaries of the promises 11 to 13: hours, and what the works and their buddles tell. */
public final class HoursBoundariesTest extends Boundaries {
    public static void main(String[] args) {
        runAll(HoursBoundariesTest.class);
    }

    // ---- promise 11: "Throws IllegalArgumentException if hours is not 1 to 100"

    static void promise11_hoursTooFew() {
        StampWorks works = Scenes.busy();
        refused(works, "run(0)", ARGUMENT, () -> works.run(0));
        refused(works, "run(-1)", ARGUMENT, () -> works.run(-1));
        refused(works, "run(MIN)", ARGUMENT, () -> works.run(MIN));
    }

    static void promise11_hoursTooMany() {
        StampWorks works = Scenes.busy();
        refused(works, "run(101)", ARGUMENT, () -> works.run(101));
        refused(works, "run(MAX)", ARGUMENT, () -> works.run(MAX));
    }

    static void promise11_hours1And100() {
        StampWorks works = new StampWorks();
        due("run(1)", works.run(1), 100);
        due("count(0)", works.count(0), 1);
        due("run(100)", works.run(100), 10000);
        due("count(0)", works.count(0), 101);
    }

    // "Throws IllegalStateException if the hour would be greater than 5000"
    static void promise11_hourJust5000() {
        StampWorks works = Scenes.atHour(4900);
        due("run(100)", works.run(100), 10000);
        due("count(0)", works.count(0), 5000);
    }

    static void promise11_hourWouldBe5001() {
        StampWorks works = Scenes.atHour(4901);
        refused(works, "run(100)", STATE, () -> works.run(100));
        due("run(99)", works.run(99), 9900);
        refused(works, "run(1)", STATE, () -> works.run(1));
    }

    // "If several exceptions apply, the one that is named first is thrown."
    static void promise11_hoursAreNamedBeforeTheLateHour() {
        StampWorks works = Scenes.atHour(5000);
        refused(works, "run(101)", ARGUMENT, () -> works.run(101));
        refused(works, "run(0)", ARGUMENT, () -> works.run(0));
        refused(works, "run(MAX)", ARGUMENT, () -> works.run(MAX));
    }

    // "Returns how often the wheel turned in them."
    static void promise11_turnsOfHoursInWhichTheWaterEnds() {
        StampWorks works = new StampWorks();
        Scenes.inflowAlways(works, 0);
        works.setSluice(20);
        due("run(100), 10000 of water", works.run(100), 5000);
        due("run(100) without water", works.run(100), 0);
    }

    // ---- promise 12: "Throws IndexOutOfBoundsException if what is not 0 to 13"

    static void promise12_whatTooSmall() {
        StampWorks works = Scenes.busy();
        refused(works, "count(-1)", INDEX, () -> works.count(-1));
        refused(works, "count(MIN)", INDEX, () -> works.count(MIN));
    }

    static void promise12_whatTooLarge() {
        StampWorks works = Scenes.busy();
        refused(works, "count(14)", INDEX, () -> works.count(14));
        refused(works, "count(MAX)", INDEX, () -> works.count(MAX));
    }

    static void promise12_what0And13() {
        StampWorks works = Scenes.feeding(40);
        works.bring(100, 500, 1);
        works.run(2);
        asked(works, "count(0)", 15, () -> works.count(0));
        asked(works, "count(13), 20 of each hour", 40, () -> works.count(13));
    }

    // "5 all ore of the hopper"
    static void promise12_oreOfEmptyAndFullHopper() {
        StampWorks works = new StampWorks();
        due("count(5)", works.count(5), 0);
        for (int i = 0; i < 30; i++) {
            works.bring(5000, 500, 1);
        }
        due("count(4)", works.count(4), 30);
        due("count(5)", works.count(5), 150000);
    }

    // "13 the tin in all boxes": of all sizes, and of no buddle
    static void promise12_tinOfAllSizesAndBoxes() {
        StampWorks works = Scenes.striking(30);
        works.addBox();
        works.setBox(1, 5, 0);
        works.bring(300, 330, 1);
        works.bring(5, 1000, 1);
        works.run(1);
        int tin = works.box(0, 7) + works.box(0, 8) + works.box(0, 9);
        due("count(13)", works.count(13), tin + 5);
        due("count(13), 104 less slime and buddle", works.count(13), 104 - works.count(9) - works.buddle(0, 1));
        due("count(13) without a box", new StampWorks().count(13), 0);
    }

    // ---- promise 13: "Throws IndexOutOfBoundsException if buddle or what is not 0 to 2"

    static void promise13_buddleTooSmall() {
        StampWorks works = Scenes.busy();
        refused(works, "buddle(-1, 0)", INDEX, () -> works.buddle(-1, 0));
        refused(works, "buddle(MIN, 0)", INDEX, () -> works.buddle(MIN, 0));
    }

    static void promise13_buddleTooLarge() {
        StampWorks works = Scenes.busy();
        refused(works, "buddle(3, 0)", INDEX, () -> works.buddle(3, 0));
        refused(works, "buddle(MAX, 0)", INDEX, () -> works.buddle(MAX, 0));
    }

    static void promise13_buddle0And2() {
        StampWorks works = Scenes.buddleOf(10, 3);
        Scenes.putInto(works, 2, 20, 4);
        asked(works, "buddle(0, 0)", 10, () -> works.buddle(0, 0));
        asked(works, "buddle(0, 1)", 3, () -> works.buddle(0, 1));
        asked(works, "buddle(2, 0)", 20, () -> works.buddle(2, 0));
        asked(works, "buddle(2, 1)", 4, () -> works.buddle(2, 1));
    }

    static void promise13_whatTooSmall() {
        StampWorks works = Scenes.busy();
        refused(works, "buddle(0, -1)", INDEX, () -> works.buddle(0, -1));
        refused(works, "buddle(0, MIN)", INDEX, () -> works.buddle(0, MIN));
    }

    static void promise13_whatTooLarge() {
        StampWorks works = Scenes.busy();
        refused(works, "buddle(0, 3)", INDEX, () -> works.buddle(0, 3));
        refused(works, "buddle(0, MAX)", INDEX, () -> works.buddle(0, MAX));
    }

    // "The grade of rock and tin is tin * 1000 / (both together), 0 if there is nothing."
    static void promise13_gradeOfNothing() {
        StampWorks works = Scenes.strong();
        asked(works, "buddle(1, 2)", 0, () -> works.buddle(1, 2));
    }

    static void promise13_gradeOfTinAlone() {
        due("buddle(0, 2)", Scenes.buddleOf(0, 1).buddle(0, 2), 1000);
    }

    static void promise13_gradeOfRockAlone() {
        due("buddle(0, 2)", Scenes.buddleOf(1, 0).buddle(0, 2), 0);
    }

    static void promise13_gradeIsCut() {
        due("buddle(0, 2)", Scenes.buddleOf(1, 2).buddle(0, 2), 666);
        due("buddle(0, 2)", Scenes.buddleOf(1999, 1).buddle(0, 2), 0);
    }

    static void promise13_fullBuddle() {
        StampWorks works = Scenes.buddleOf(0, 6000);
        buddleTells(works, 0, 0, 6000);
        due("buddle(0, 2)", works.buddle(0, 2), 1000);
    }
}
