/** Boundaries of how an hour goes, which run lets go by (promise 11): water, wheel, boxes in their order. */
public final class OneHourBoundariesTest extends Boundaries {
    public static void main(String[] args) {
        runAll(OneHourBoundariesTest.class);
    }

    /** Works of which nothing is taken yet, into which so much comes. */
    private static StampWorks filling(int amount) {
        StampWorks works = new StampWorks();
        Scenes.inflowAlways(works, amount);
        works.setSluice(0);
        return works;
    }

    /** Works with one stamp, and so much water in each hour. */
    private static StampWorks wearing(int water, int weight, int cams) {
        StampWorks works = Scenes.taking(water);
        works.addBox();
        works.hang(0, weight, cams);
        return works;
    }

    // ---- "1. Water: the pond gets what the table tells (at most 20000 in all)."

    static void promise11_pondJustFull() {
        StampWorks works = filling(900);
        works.run(11);
        due("count(1)", works.count(1), 19900);
        Scenes.inflowAlways(works, 100);
        works.run(1);
        due("count(1)", works.count(1), 20000);
    }

    static void promise11_pondOverfull() {
        StampWorks works = filling(900);
        works.run(11);
        Scenes.inflowAlways(works, 101);
        works.run(1);
        due("count(1)", works.count(1), 20000);
        works.run(100);
        due("count(1)", works.count(1), 20000);
    }

    static void promise11_fullPondLosesBeforeTheSluiceTakes() {
        StampWorks works = filling(900);
        works.run(12);
        works.setSluice(20);
        due("run(1)", works.run(1), 400);
        due("count(1), 20000 less 800", works.count(1), 19200);
    }

    // "Then sluice * 40 is taken out of it, or all that it holds."
    static void promise11_sluiceShut() {
        StampWorks works = filling(7);
        due("run(3)", works.run(3), 0);
        due("count(1)", works.count(1), 10021);
    }

    static void promise11_sluiceFullyOpen() {
        StampWorks works = filling(0);
        works.setSluice(20);
        due("run(1)", works.run(1), 400);
        due("count(1)", works.count(1), 9200);
    }

    static void promise11_pondHoldsJustWhatTheSluiceTakes() {
        StampWorks works = filling(0);
        works.setSluice(10);
        works.run(23);
        due("count(1)", works.count(1), 800);
        works.setSluice(20);
        due("run(1)", works.run(1), 400);
        due("count(1)", works.count(1), 0);
    }

    static void promise11_pondHoldsLessThanTheSluiceTakes() {
        StampWorks works = filling(0);
        works.setSluice(20);
        works.run(12);
        due("count(1)", works.count(1), 400);
        due("run(1)", works.run(1), 200);
        due("count(1)", works.count(1), 0);
    }

    static void promise11_emptyPond() {
        StampWorks works = Scenes.taking(0);
        due("run(1)", works.run(1), 0);
        due("count(1)", works.count(1), 0);
    }

    static void promise11_emptyPondGivesWhatComesInThisHour() {
        StampWorks works = Scenes.taking(7);
        due("run(1), 70 / 20", works.run(1), 3);
        due("count(1)", works.count(1), 0);
    }

    // "in the hour h (that goes by; the first one is 0) that with the number h by the remainder of 24"
    static void promise11_tableInTheFirstHour() {
        StampWorks works = filling(0);
        works.setInflow(0, 9);
        works.run(1);
        due("count(1)", works.count(1), 10009);
        works.run(1);
        due("count(1)", works.count(1), 10009);
    }

    static void promise11_tableInItsLastHour() {
        StampWorks works = filling(0);
        works.setInflow(23, 9);
        works.run(23);
        due("count(1) before the hour 23", works.count(1), 10000);
        works.run(1);
        due("count(1) after the hour 23", works.count(1), 10009);
    }

    static void promise11_tableWrapsAroundAfter24Hours() {
        StampWorks works = filling(0);
        works.setInflow(0, 9);
        works.run(24);
        due("count(1) before the hour 24", works.count(1), 10009);
        works.run(1);
        due("count(1) after the hour 24", works.count(1), 10018);
        works.run(23);
        due("count(1) before the hour 48", works.count(1), 10018);
        works.run(1);
        due("count(1) after the hour 48", works.count(1), 10027);
    }

    static void promise11_tableInTheLatestHour() {
        StampWorks works = Scenes.atHour(4999);
        works.setSluice(0);
        Scenes.inflowAlways(works, 0);
        works.setInflow(7, 9);
        works.run(1);
        due("count(1), 4999 is 7 by 24", works.count(1), 10009);
    }

    // ---- "2. Wheel: its load is 20 and, for each stamp of each box, weight * cams / 4."

    static void promise11_wheelWithoutStamps() {
        StampWorks works = Scenes.taking(40);
        works.addBox();
        due("count(6)", works.count(6), 20);
        due("run(1)", works.run(1), 20);
    }

    static void promise11_loadOfEachStampIsCut() {
        StampWorks works = Scenes.taking(310);
        works.addBox();
        works.addBox();
        works.hang(0, 10, 1);
        works.hang(0, 11, 1);
        works.hang(1, 10, 3);
        due("count(6), 2 and 2 and 7", works.count(6), 31);
        due("run(1)", works.run(1), 100);
    }

    static void promise11_wheelWithAllStampsOfTheGreatestLoad() {
        StampWorks works = Scenes.taking(98);
        for (int box = 0; box < 4; box++) {
            works.addBox();
            for (int stamp = 0; stamp < 4; stamp++) {
                works.hang(box, 60, 4);
            }
        }
        due("count(6)", works.count(6), 980);
        due("run(1), 980 / 980", works.run(1), 1);
        Scenes.inflowAlways(works, 97);
        due("run(1), 970 / 980", works.run(1), 0);
    }

    // "It turns (what was taken) * 10 / load times in this hour."
    static void promise11_turnsAreCutInEachHour() {
        due("run(1), 390 / 20", Scenes.taking(39).run(1), 19);
        due("run(2)", Scenes.taking(39).run(2), 38);
    }

    static void promise11_wheelStandsWithoutWater() {
        StampWorks works = wearing(0, 60, 4);
        due("run(5)", works.run(5), 0);
        due("box(0, 11)", works.box(0, 11), 0);
    }

    // ---- "3. Each box, in ascending order"

    static void promise11_lowerBoxIsFedFirst() {
        StampWorks works = Scenes.feeding(50);
        works.addBox();
        works.addBox();
        works.bring(60, 0, 9);
        works.run(1);
        sizesTell(works, 0, 50, 0, 0);
        sizesTell(works, 1, 10, 0, 0);
        sizesTell(works, 2, 0, 0, 0);
        due("box(1, 3)", works.box(1, 3), 9);
        due("box(2, 3)", works.box(2, 3), 5);
    }

    static void promise11_lowerBoxFillsTheBuddleFirst() {
        StampWorks works = Scenes.buddleOf(5990, 0);
        works.addBox();
        works.hang(1, 60, 4);
        works.setBox(0, 20, 0);
        works.setBox(1, 20, 0);
        works.bring(20, 1000, 1);
        works.bring(20, 0, 1);
        works.run(1);
        buddleTells(works, 0, 5990, 10);
        sizesTell(works, 0, 0, 0, 8);
        sizesTell(works, 1, 0, 0, 20);
    }

    // ---- "Feed: as much as its feed tells comes into it from the hopper, .. as far as there is"

    static void promise11_feed0() {
        StampWorks works = Scenes.feeding(0);
        works.bring(100, 500, 9);
        works.run(1);
        sizesTell(works, 0, 0, 0, 0);
        due("box(0, 3)", works.box(0, 3), 5);
        lotTells(works, 0, 50, 50, 9);
    }

    static void promise11_feed300() {
        StampWorks works = Scenes.feeding(300);
        works.bring(5000, 0, 9);
        works.run(1);
        sizesTell(works, 0, 300, 0, 0);
        due("count(5)", works.count(5), 4700);
    }

    static void promise11_feedFromEmptyHopper() {
        StampWorks works = Scenes.feeding(50);
        works.run(1);
        sizesTell(works, 0, 0, 0, 0);
        due("box(0, 3)", works.box(0, 3), 5);
    }

    // "that of the lot from which it was fed last"
    static void promise11_hardnessStaysWhenHopperIsEmptied() {
        StampWorks works = Scenes.feeding(50);
        works.bring(50, 0, 3);
        works.run(1);
        works.run(1);
        due("box(0, 3)", works.box(0, 3), 3);
    }

    // "a lot with nothing left is gone"; "that of the last lot of which something is taken"
    static void promise11_feedOfJustTheFirstLot() {
        StampWorks works = Scenes.feeding(50);
        works.bring(50, 200, 3);
        works.bring(60, 0, 9);
        works.run(1);
        due("box(0, 4)", works.box(0, 4), 40);
        due("box(0, 7)", works.box(0, 7), 10);
        due("box(0, 3)", works.box(0, 3), 3);
        due("count(4)", works.count(4), 1);
        lotTells(works, 0, 60, 0, 9);
    }

    // "of a lot that is not all taken tin * (what is taken) / (all of it) is the tin that is taken"
    static void promise11_feedOneLessThanTheFirstLot() {
        StampWorks works = Scenes.feeding(49);
        works.bring(50, 200, 3);
        works.bring(60, 0, 9);
        works.run(1);
        due("box(0, 4)", works.box(0, 4), 40);
        due("box(0, 7), 10 * 49 / 50", works.box(0, 7), 9);
        due("box(0, 3)", works.box(0, 3), 3);
        due("count(4)", works.count(4), 2);
        lotTells(works, 0, 0, 1, 3);
    }

    static void promise11_feedOneMoreThanTheFirstLot() {
        StampWorks works = Scenes.feeding(51);
        works.bring(50, 200, 3);
        works.bring(50, 400, 9);
        works.run(1);
        due("box(0, 4)", works.box(0, 4), 41);
        due("box(0, 7), 20 * 1 / 50 more", works.box(0, 7), 10);
        due("box(0, 3)", works.box(0, 3), 9);
        due("count(4)", works.count(4), 1);
        lotTells(works, 0, 29, 20, 9);
    }

    static void promise11_feedOfLessThanTheHopperHolds() {
        StampWorks works = Scenes.feeding(109);
        works.bring(50, 0, 3);
        works.bring(60, 0, 9);
        works.run(1);
        sizesTell(works, 0, 109, 0, 0);
        due("count(5)", works.count(5), 1);
    }

    static void promise11_feedOfAllThatTheHopperHolds() {
        StampWorks works = Scenes.feeding(110);
        works.bring(50, 0, 3);
        works.bring(60, 0, 9);
        works.run(1);
        sizesTell(works, 0, 110, 0, 0);
        due("box(0, 3)", works.box(0, 3), 9);
        due("count(4)", works.count(4), 0);
    }

    static void promise11_feedOfMoreThanTheHopperHolds() {
        StampWorks works = Scenes.feeding(111);
        works.bring(50, 0, 3);
        works.bring(60, 0, 9);
        works.run(1);
        sizesTell(works, 0, 110, 0, 0);
        due("box(0, 3)", works.box(0, 3), 9);
        due("count(5)", works.count(5), 0);
    }

    static void promise11_feedOfThirtyLotsAtOnce() {
        StampWorks works = Scenes.feeding(300);
        for (int i = 0; i < 30; i++) {
            works.bring(10, 100, 1 + i % 9);
        }
        works.run(1);
        due("box(0, 4)", works.box(0, 4), 270);
        due("box(0, 7)", works.box(0, 7), 30);
        due("box(0, 3)", works.box(0, 3), 3);
        due("count(4)", works.count(4), 0);
    }

    // ---- "Lumps become grit: at most force / hardness"

    static void promise11_forceBreaksJustAllLumps() {
        StampWorks works = Scenes.striking(30);
        works.bring(40, 0, 1);
        works.run(1);
        due("box(0, 11)", works.box(0, 11), 40);
        sizesTell(works, 0, 0, 20, 13);
        buddleTells(works, 0, 7, 0);
    }

    static void promise11_oneLumpMoreThanForceBreaks() {
        StampWorks works = Scenes.striking(30);
        works.bring(41, 0, 1);
        works.run(1);
        sizesTell(works, 0, 1, 20, 13);
    }

    static void promise11_oneLumpLessThanForceBreaks() {
        StampWorks works = Scenes.striking(30);
        works.bring(39, 0, 1);
        works.run(1);
        sizesTell(works, 0, 0, 19, 13);
    }

    // "then grit (that of this hour, too) becomes sand: at most force / (2 * hardness)"
    static void promise11_gritOfThisHourBecomesSand() {
        StampWorks works = Scenes.striking(30);
        works.bring(20, 0, 1);
        works.run(1);
        sizesTell(works, 0, 0, 0, 13);
        StampWorks more = Scenes.striking(30);
        more.bring(21, 0, 1);
        more.run(1);
        sizesTell(more, 0, 0, 1, 13);
    }

    static void promise11_breakingIsCutByTheHardness() {
        StampWorks works = Scenes.striking(30);
        works.bring(100, 0, 9);
        works.run(1);
        // 40 / 9 of the lumps, 40 / 18 of the grit.
        sizesTell(works, 0, 96, 2, 0);
        buddleTells(works, 0, 2, 0);
    }

    static void promise11_forceBelowTheHardnessBreaksNothing() {
        StampWorks works = Scenes.striking(3);
        works.bring(100, 0, 5);
        works.run(1);
        due("box(0, 11)", works.box(0, 11), 4);
        sizesTell(works, 0, 100, 0, 0);
    }

    static void promise11_forceOfJustTheHardnessBreaksOne() {
        StampWorks works = Scenes.striking(3);
        works.bring(100, 0, 4);
        works.run(1);
        sizesTell(works, 0, 99, 1, 0);
    }

    static void promise11_oldLumpsHaveTheHardnessOfTheNewLot() {
        StampWorks works = Scenes.striking(0);
        works.bring(100, 0, 9);
        works.run(1);
        works.bring(1, 0, 1);
        Scenes.inflowAlways(works, 30);
        works.run(1);
        sizesTell(works, 0, 61, 20, 13);
    }

    // "(of nothing nothing is broken)"
    static void promise11_nothingToBreak() {
        StampWorks works = Scenes.striking(30);
        due("run(1)", works.run(1), 10);
        due("box(0, 11)", works.box(0, 11), 40);
        sizesTell(works, 0, 0, 0, 0);
        buddleTells(works, 0, 0, 0);
    }

    static void promise11_boxWithoutStampsBreaksNothing() {
        StampWorks works = Scenes.feeding(300);
        Scenes.inflowAlways(works, 800);
        works.bring(100, 0, 1);
        works.run(2);
        due("box(0, 11)", works.box(0, 11), 0);
        sizesTell(works, 0, 100, 0, 0);
    }

    // "weight * cams * turns * (100 less the wear) / 1000 (each cut)"
    static void promise11_forceOfEachStampIsCut() {
        StampWorks works = Scenes.taking(17);
        works.addBox();
        works.hang(0, 11, 1);
        works.hang(0, 11, 1);
        due("run(1), 170 / 24", works.run(1), 7);
        due("box(0, 11), two times 7.7", works.box(0, 11), 14);
    }

    // "t * a / (r and t together) is the tin of this, the rest is rock"
    static void promise11_tinOfWhatIsBrokenIsCut() {
        StampWorks works = Scenes.striking(30);
        works.bring(100, 330, 1);
        works.run(1);
        // Lumps 67 and 33: of these 40 with tin of 13.2; of these 20 with tin of 6.5; 1 is slime.
        due("box(0, 4)", works.box(0, 4), 40);
        due("box(0, 7)", works.box(0, 7), 20);
        due("box(0, 5)", works.box(0, 5), 13);
        due("box(0, 8)", works.box(0, 8), 7);
        // Of the sand 14 and 5 the water takes 7, with tin of 1.8.
        due("box(0, 6)", works.box(0, 6), 8);
        due("box(0, 9)", works.box(0, 9), 4);
        buddleTells(works, 0, 6, 1);
    }

    // ---- "Slime: a tenth (cut) of the tin that is sand by then, but at least 1, if there is any, is lost."

    private static void slimeOf(int tin, int lost) {
        StampWorks works = Scenes.strong();
        works.bring(tin, 1000, 1);
        works.run(1);
        due("slime of " + tin, works.count(9), lost);
        buddleTells(works, 0, 0, tin - lost);
    }

    static void promise11_slimeWithoutTin() {
        StampWorks works = Scenes.strong();
        works.bring(100, 0, 1);
        works.run(1);
        due("count(9)", works.count(9), 0);
        buddleTells(works, 0, 100, 0);
    }

    static void promise11_slimeIsAtLeast1() {
        slimeOf(1, 1);
        slimeOf(2, 1);
        slimeOf(9, 1);
    }

    static void promise11_slimeIsATenthCut() {
        slimeOf(10, 1);
        slimeOf(19, 1);
        slimeOf(20, 2);
        slimeOf(29, 2);
        slimeOf(200, 20);
    }

    static void promise11_slimeOfSandThatLies() {
        StampWorks works = Scenes.striking(30);
        works.bring(20, 1000, 1);
        works.run(1);
        due("count(9)", works.count(9), 2);
        sizesTell(works, 0, 0, 0, 11);
        Scenes.inflowAlways(works, 0);
        works.run(1);
        due("count(9)", works.count(9), 3);
        sizesTell(works, 0, 0, 0, 10);
        works.run(10);
        due("count(9)", works.count(9), 13);
        sizesTell(works, 0, 0, 0, 0);
        works.run(1);
        due("count(9) of no more tin", works.count(9), 13);
    }

    static void promise11_noSlimeOfLumpsAndGrit() {
        StampWorks works = Scenes.striking(3);
        works.bring(100, 1000, 4);
        works.run(1);
        sizesTell(works, 0, 99, 1, 0);
        due("count(9)", works.count(9), 0);
    }

    // ---- "Grate: .. at most (what was taken from the pond) / 4, at most what the buddle can hold"

    /** A box with 30 of rock as sand, and so much water from now on. */
    private static StampWorks sandAnd(int water) {
        StampWorks works = Scenes.taking(40);
        works.addBox();
        works.hang(0, 60, 4);
        works.bring(40, 0, 1);
        works.run(1);
        sizesTell(works, 0, 0, 0, 30);
        Scenes.inflowAlways(works, water);
        works.run(1);
        return works;
    }

    static void promise11_grateWithoutWater() {
        sizesTell(sandAnd(0), 0, 0, 0, 30);
    }

    static void promise11_grateIsCut() {
        sizesTell(sandAnd(3), 0, 0, 0, 30);
        sizesTell(sandAnd(4), 0, 0, 0, 29);
        sizesTell(sandAnd(7), 0, 0, 0, 29);
    }

    static void promise11_grateOfJustAllSand() {
        sizesTell(sandAnd(119), 0, 0, 0, 1);
        StampWorks works = sandAnd(120);
        sizesTell(works, 0, 0, 0, 0);
        buddleTells(works, 0, 40, 0);
    }

    static void promise11_grateOfMoreThanAllSand() {
        StampWorks works = sandAnd(800);
        sizesTell(works, 0, 0, 0, 0);
        buddleTells(works, 0, 40, 0);
    }

    static void promise11_grateTakesWhatWasTakenNotWhatTheSluiceCould() {
        StampWorks works = sandAnd(8);
        due("count(2)", works.count(2), 20);
        buddleTells(works, 0, 12, 0);
    }

    static void promise11_eachBoxHasTheWholeGrate() {
        StampWorks works = Scenes.strong();
        works.addBox();
        works.hang(1, 60, 4);
        works.setBox(0, 250, 0);
        works.setBox(1, 250, 0);
        works.bring(500, 0, 1);
        works.run(1);
        buddleTells(works, 0, 400, 0);
    }

    // "together at most 6000"
    static void promise11_fullBuddle() {
        StampWorks works = Scenes.buddleOf(5900, 100);
        works.bring(10, 0, 1);
        works.run(1);
        buddleTells(works, 0, 5900, 100);
        sizesTell(works, 0, 0, 0, 10);
    }

    static void promise11_buddleThatHoldsOneMore() {
        StampWorks works = Scenes.buddleOf(5900, 99);
        works.bring(10, 0, 1);
        works.run(1);
        buddleTells(works, 0, 5901, 99);
        sizesTell(works, 0, 0, 0, 9);
    }

    static void promise11_buddleThatIsJustFilled() {
        StampWorks works = Scenes.buddleOf(5890, 100);
        works.bring(10, 0, 1);
        works.run(1);
        buddleTells(works, 0, 5900, 100);
        sizesTell(works, 0, 0, 0, 0);
    }

    static void promise11_fullBuddleShutsNoOther() {
        StampWorks works = Scenes.buddleOf(6000, 0);
        works.setBox(0, 300, 2);
        works.bring(10, 0, 1);
        works.run(1);
        buddleTells(works, 0, 6000, 0);
        buddleTells(works, 2, 10, 0);
    }

    // ---- "Wear: each stamp wears by turns / 200, at most to 90."

    static void promise11_wearOf199Turns() {
        StampWorks works = wearing(797, 40, 2);
        due("run(1)", works.run(1), 199);
        due("box(0, 10)", works.box(0, 10), 0);
        works.run(5);
        due("box(0, 10), as each hour is cut", works.box(0, 10), 0);
    }

    static void promise11_wearOf200Turns() {
        StampWorks works = wearing(800, 40, 2);
        due("run(1)", works.run(1), 200);
        due("box(0, 10)", works.box(0, 10), 1);
    }

    static void promise11_wearOfTheMostTurns() {
        StampWorks works = wearing(800, 10, 1);
        due("run(1)", works.run(1), 363);
        due("box(0, 10)", works.box(0, 10), 1);
    }

    static void promise11_wearGoesTo90() {
        StampWorks works = wearing(800, 40, 2);
        works.run(89);
        due("box(0, 10)", works.box(0, 10), 89);
        works.run(1);
        due("box(0, 10)", works.box(0, 10), 90);
        works.run(1);
        due("box(0, 10)", works.box(0, 10), 90);
        due("box(0, 11), 80 * 200 * 10 / 1000", works.box(0, 11), 160);
    }

    static void promise11_wearComesAfterTheBlow() {
        StampWorks works = wearing(800, 40, 2);
        works.run(1);
        due("box(0, 11) of a new stamp", works.box(0, 11), 1600);
        works.run(1);
        due("box(0, 11) of the wear 1", works.box(0, 11), 1584);
    }

    static void promise11_newStampBesideAWornOne() {
        StampWorks works = wearing(800, 10, 2);
        works.run(92);
        works.hang(0, 10, 2);
        works.run(2);
        due("shoe(0, 0)", works.shoe(0, 0), 90);
        due("shoe(0, 1)", works.shoe(0, 1), 2);
    }

    // ---- "4. The hour is 1 greater from now on."

    static void promise11_hourIs1Greater() {
        StampWorks works = new StampWorks();
        works.run(1);
        due("count(0)", works.count(0), 1);
        works.run(1);
        due("count(0)", works.count(0), 2);
    }
}
