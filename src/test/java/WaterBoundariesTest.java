/** Boundaries of the promises 1 to 3: new works, the table and the sluice. */
public final class WaterBoundariesTest extends Boundaries {
    public static void main(String[] args) {
        runAll(WaterBoundariesTest.class);
    }

    // ---- promise 1: "Creates works without boxes and ore, in the hour 0."

    static void promise1_noBoxes() {
        StampWorks works = new StampWorks();
        due("count(3)", works.count(3), 0);
        due("count(6), the load of the bare wheel", works.count(6), 20);
        due("count(13)", works.count(13), 0);
        refused(works, "box(0, 0)", INDEX, () -> works.box(0, 0));
    }

    static void promise1_noOre() {
        StampWorks works = new StampWorks();
        due("count(4)", works.count(4), 0);
        due("count(5)", works.count(5), 0);
        refused(works, "lot(0, 0)", INDEX, () -> works.lot(0, 0));
        for (int buddle = 0; buddle < 3; buddle++) {
            buddleTells(works, buddle, 0, 0);
            due("the grade of " + buddle, works.buddle(buddle, 2), 0);
        }
        storeTells(works, 0, 0);
        tailsTell(works, 0, 0);
        due("count(9)", works.count(9), 0);
        due("count(12)", works.count(12), 0);
    }

    static void promise1_hourIs0() {
        due("count(0)", new StampWorks().count(0), 0);
    }

    // "The pond holds .. (10000, at first)."
    static void promise1_pondHolds10000() {
        due("count(1)", new StampWorks().count(1), 10000);
    }

    // "A table tells .. (200, at first)"
    static void promise1_tableTells200InEachHour() {
        StampWorks works = new StampWorks();
        for (int hour = 0; hour < 24; hour++) {
            due("setInflow(" + hour + ", 1)", works.setInflow(hour, 1), 200);
        }
    }

    // "The sluice is .. (5, at first)."
    static void promise1_sluiceIs5() {
        due("count(2)", new StampWorks().count(2), 5);
        due("setSluice(6)", new StampWorks().setSluice(6), 5);
    }

    static void promise1_eachObjectStandsAlone() {
        StampWorks first = Scenes.busy();
        StampWorks second = new StampWorks();
        long before = first.digest();
        due("count(3) of the second", second.count(3), 0);
        second.addBox();
        second.setSluice(20);
        second.run(5);
        due("digest() of the first", first.digest(), before);
    }

    // "An object is used for at most 512 calls after it has been made"
    static void promise1_call512IsAnswered() {
        StampWorks works = new StampWorks();
        works.addBox();
        works.hang(0, 60, 4);
        for (int call = 3; call < 512; call++) {
            due("call " + call, works.count(3), 1);
        }
        due("call 512", works.hang(0, 60, 4), 2);
    }

    // ---- promise 2: "Throws IndexOutOfBoundsException if hour is not 0 to 23"

    static void promise2_hourTooSmall() {
        StampWorks works = Scenes.busy();
        refused(works, "setInflow(-1, 5)", INDEX, () -> works.setInflow(-1, 5));
        refused(works, "setInflow(MIN, 5)", INDEX, () -> works.setInflow(MIN, 5));
    }

    static void promise2_hourTooLarge() {
        StampWorks works = Scenes.busy();
        refused(works, "setInflow(24, 5)", INDEX, () -> works.setInflow(24, 5));
        refused(works, "setInflow(MAX, 5)", INDEX, () -> works.setInflow(MAX, 5));
    }

    static void promise2_hour0And23() {
        StampWorks works = new StampWorks();
        due("setInflow(0, 5)", works.setInflow(0, 5), 200);
        due("setInflow(0, 6)", works.setInflow(0, 6), 5);
        due("setInflow(23, 7)", works.setInflow(23, 7), 200);
        due("setInflow(23, 8)", works.setInflow(23, 8), 7);
    }

    // "Throws IllegalArgumentException if amount is not 0 to 900"
    static void promise2_amountTooSmall() {
        StampWorks works = Scenes.busy();
        refused(works, "setInflow(3, -1)", ARGUMENT, () -> works.setInflow(3, -1));
        refused(works, "setInflow(3, MIN)", ARGUMENT, () -> works.setInflow(3, MIN));
    }

    static void promise2_amountTooLarge() {
        StampWorks works = Scenes.busy();
        refused(works, "setInflow(3, 901)", ARGUMENT, () -> works.setInflow(3, 901));
        refused(works, "setInflow(3, MAX)", ARGUMENT, () -> works.setInflow(3, MAX));
    }

    static void promise2_amount0And900() {
        StampWorks works = new StampWorks();
        due("setInflow(3, 0)", works.setInflow(3, 0), 200);
        due("setInflow(3, 900)", works.setInflow(3, 900), 0);
        due("setInflow(3, 1)", works.setInflow(3, 1), 900);
    }

    // "If several exceptions apply, the one that is named first is thrown."
    static void promise2_hourIsNamedBeforeAmount() {
        StampWorks works = Scenes.busy();
        refused(works, "setInflow(24, 901)", INDEX, () -> works.setInflow(24, 901));
        refused(works, "setInflow(-1, -1)", INDEX, () -> works.setInflow(-1, -1));
    }

    // ---- promise 3: "Throws IllegalArgumentException if sluice is not 0 to 20"

    static void promise3_sluiceTooSmall() {
        StampWorks works = Scenes.busy();
        refused(works, "setSluice(-1)", ARGUMENT, () -> works.setSluice(-1));
        refused(works, "setSluice(MIN)", ARGUMENT, () -> works.setSluice(MIN));
    }

    static void promise3_sluiceTooLarge() {
        StampWorks works = Scenes.busy();
        refused(works, "setSluice(21)", ARGUMENT, () -> works.setSluice(21));
        refused(works, "setSluice(MAX)", ARGUMENT, () -> works.setSluice(MAX));
    }

    static void promise3_sluice0And20() {
        StampWorks works = new StampWorks();
        due("setSluice(0)", works.setSluice(0), 5);
        due("count(2)", works.count(2), 0);
        due("setSluice(20)", works.setSluice(20), 0);
        due("count(2)", works.count(2), 20);
        due("setSluice(20) again", works.setSluice(20), 20);
    }
}
