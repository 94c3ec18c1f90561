/** Boundaries of the promises 9 and 10: the hopper and its lots. */
public final class OreBoundariesTest extends Boundaries {
    public static void main(String[] args) {
        runAll(OreBoundariesTest.class);
    }

    private static StampWorks worksWithLots(int lots) {
        StampWorks works = new StampWorks();
        for (int i = 0; i < lots; i++) {
            works.bring(100 + i, 0, 1 + i % 9);
        }
        return works;
    }

    // ---- promise 9: "Throws IllegalArgumentException if amount is not 1 to 5000, tin is not 0 to 1000, .."

    static void promise9_amountTooSmall() {
        StampWorks works = Scenes.busy();
        refused(works, "bring(0, 100, 4)", ARGUMENT, () -> works.bring(0, 100, 4));
        refused(works, "bring(-1, 100, 4)", ARGUMENT, () -> works.bring(-1, 100, 4));
        refused(works, "bring(MIN, 100, 4)", ARGUMENT, () -> works.bring(MIN, 100, 4));
    }

    static void promise9_amountTooLarge() {
        StampWorks works = Scenes.busy();
        refused(works, "bring(5001, 100, 4)", ARGUMENT, () -> works.bring(5001, 100, 4));
        refused(works, "bring(MAX, 100, 4)", ARGUMENT, () -> works.bring(MAX, 100, 4));
    }

    static void promise9_amount1And5000() {
        StampWorks works = new StampWorks();
        due("bring(1, 100, 4)", works.bring(1, 100, 4), 1);
        lotTells(works, 0, 1, 0, 4);
        due("bring(5000, 100, 4)", works.bring(5000, 100, 4), 2);
        lotTells(works, 1, 4500, 500, 4);
    }

    static void promise9_tinTooSmall() {
        StampWorks works = Scenes.busy();
        refused(works, "bring(50, -1, 4)", ARGUMENT, () -> works.bring(50, -1, 4));
        refused(works, "bring(50, MIN, 4)", ARGUMENT, () -> works.bring(50, MIN, 4));
    }

    static void promise9_tinTooLarge() {
        StampWorks works = Scenes.busy();
        refused(works, "bring(50, 1001, 4)", ARGUMENT, () -> works.bring(50, 1001, 4));
        refused(works, "bring(50, MAX, 4)", ARGUMENT, () -> works.bring(50, MAX, 4));
    }

    static void promise9_tin0And1000() {
        StampWorks works = new StampWorks();
        due("bring(5000, 0, 4)", works.bring(5000, 0, 4), 1);
        lotTells(works, 0, 5000, 0, 4);
        due("bring(5000, 1000, 4)", works.bring(5000, 1000, 4), 2);
        lotTells(works, 1, 0, 5000, 4);
    }

    static void promise9_hardnessTooSmall() {
        StampWorks works = Scenes.busy();
        refused(works, "bring(50, 100, 0)", ARGUMENT, () -> works.bring(50, 100, 0));
        refused(works, "bring(50, 100, MIN)", ARGUMENT, () -> works.bring(50, 100, MIN));
    }

    static void promise9_hardnessTooLarge() {
        StampWorks works = Scenes.busy();
        refused(works, "bring(50, 100, 10)", ARGUMENT, () -> works.bring(50, 100, 10));
        refused(works, "bring(50, 100, MAX)", ARGUMENT, () -> works.bring(50, 100, MAX));
    }

    static void promise9_hardness1And9() {
        StampWorks works = new StampWorks();
        due("bring(50, 100, 1)", works.bring(50, 100, 1), 1);
        lotTells(works, 0, 45, 5, 1);
        due("bring(50, 100, 9)", works.bring(50, 100, 9), 2);
        lotTells(works, 1, 45, 5, 9);
    }

    // "amount * tin / 1000, cut; the rest is rock"
    static void promise9_tinIsCut() {
        StampWorks works = new StampWorks();
        works.bring(1, 999, 4);
        lotTells(works, 0, 1, 0, 4);
        works.bring(3, 666, 4);
        lotTells(works, 1, 2, 1, 4);
        works.bring(3, 667, 4);
        lotTells(works, 2, 1, 2, 4);
    }

    // "Throws IllegalStateException if there are 30"
    static void promise9_thirtyLotsAreFull() {
        StampWorks works = worksWithLots(30);
        refused(works, "bring(50, 100, 4)", STATE, () -> works.bring(50, 100, 4));
        due("count(4)", works.count(4), 30);
    }

    static void promise9_twentyNineLotsTakeOneMore() {
        StampWorks works = worksWithLots(29);
        due("bring(50, 100, 4)", works.bring(50, 100, 4), 30);
        lotTells(works, 29, 45, 5, 4);
        lotTells(works, 0, 100, 0, 1);
    }

    // "behind the others"; the hopper that was full and lost its first lot takes one behind the last
    static void promise9_fullHopperTakesAgainWhenOneIsGone() {
        StampWorks works = worksWithLots(30);
        works.addBox();
        works.setBox(0, 100, 0);
        works.run(1);
        due("bring(50, 100, 4)", works.bring(50, 100, 4), 30);
        lotTells(works, 0, 101, 0, 2);
        lotTells(works, 28, 129, 0, 3);
        lotTells(works, 29, 45, 5, 4);
        refused(works, "bring(50, 100, 4)", STATE, () -> works.bring(50, 100, 4));
    }

    // "If several exceptions apply, the one that is named first is thrown."
    static void promise9_argumentsAreNamedBeforeFullHopper() {
        StampWorks works = worksWithLots(30);
        refused(works, "bring(0, 100, 4)", ARGUMENT, () -> works.bring(0, 100, 4));
        refused(works, "bring(50, 1001, 4)", ARGUMENT, () -> works.bring(50, 1001, 4));
        refused(works, "bring(50, 100, 10)", ARGUMENT, () -> works.bring(50, 100, 10));
    }

    // ---- promise 10: "Throws IndexOutOfBoundsException if there is no such lot, or what is not 0 to 2"

    static void promise10_indexTooSmall() {
        StampWorks works = worksWithLots(3);
        refused(works, "lot(-1, 0)", INDEX, () -> works.lot(-1, 0));
        refused(works, "lot(MIN, 0)", INDEX, () -> works.lot(MIN, 0));
    }

    static void promise10_indexTooLarge() {
        StampWorks works = worksWithLots(3);
        refused(works, "lot(3, 0)", INDEX, () -> works.lot(3, 0));
        refused(works, "lot(MAX, 0)", INDEX, () -> works.lot(MAX, 0));
        StampWorks full = worksWithLots(30);
        refused(full, "lot(30, 0)", INDEX, () -> full.lot(30, 0));
    }

    static void promise10_emptyHopper() {
        StampWorks works = new StampWorks();
        refused(works, "lot(0, 0)", INDEX, () -> works.lot(0, 0));
    }

    static void promise10_firstAndLastLot() {
        StampWorks works = worksWithLots(30);
        asked(works, "lot(0, 0)", 100, () -> works.lot(0, 0));
        asked(works, "lot(29, 0)", 129, () -> works.lot(29, 0));
    }

    // "in their order, from 0": a lot that is gone is told no more
    static void promise10_lastIndexWhenOneIsGone() {
        StampWorks works = worksWithLots(3);
        works.addBox();
        works.setBox(0, 100, 0);
        works.run(1);
        refused(works, "lot(2, 0)", INDEX, () -> works.lot(2, 0));
        lotTells(works, 0, 101, 0, 2);
        lotTells(works, 1, 102, 0, 3);
    }

    static void promise10_whatTooSmall() {
        StampWorks works = worksWithLots(3);
        refused(works, "lot(0, -1)", INDEX, () -> works.lot(0, -1));
        refused(works, "lot(0, MIN)", INDEX, () -> works.lot(0, MIN));
    }

    static void promise10_whatTooLarge() {
        StampWorks works = worksWithLots(3);
        refused(works, "lot(0, 3)", INDEX, () -> works.lot(0, 3));
        refused(works, "lot(0, MAX)", INDEX, () -> works.lot(0, MAX));
    }

    static void promise10_what0And2() {
        StampWorks works = new StampWorks();
        works.bring(100, 250, 3);
        asked(works, "lot(0, 0)", 75, () -> works.lot(0, 0));
        asked(works, "lot(0, 2)", 3, () -> works.lot(0, 2));
    }
}
