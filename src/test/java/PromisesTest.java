/** Each promise by figures worked out by hand: ordinary inputs, edges, and wrong inputs. */
public final class PromisesTest {
    private static final Class<IndexOutOfBoundsException> INDEX = IndexOutOfBoundsException.class;
    private static final Class<IllegalArgumentException> ARGUMENT = IllegalArgumentException.class;
    private static final Class<IllegalStateException> STATE = IllegalStateException.class;

    private static final Checks CHECKS = new Checks();

    public static void main(String[] args) {
        newObject();
        setInflow();
        setSluice();
        addBox();
        hang();
        shoe();
        setBox();
        box();
        bring();
        lot();
        run();
        runWater();
        runFeed();
        runBlow();
        runSlime();
        runGrate();
        runWear();
        runAllStamps();
        count();
        buddle();
        wash();
        washRefused();
        again();
        smelt();
        foresee();
        foreseeAsRun();
        advise();
        bestWater();
        share();
        digest();
        CHECKS.end();
    }

    // ---- what the tests share

    private static void due(String call, long got, long want) {
        CHECKS.due(call, got, want);
    }

    private static void counts(StampWorks works, String when, long... want) {
        for (int what = 0; what < want.length; what++) {
            due("count(" + what + ") " + when, works.count(what), want[what]);
        }
    }

    private static void boxTells(StampWorks works, int box, long... want) {
        for (int what = 0; what < want.length; what++) {
            due("box(" + box + ", " + what + ")", works.box(box, what), want[what]);
        }
    }

    private static void lotTells(StampWorks works, int index, long rock, long tin, long hardness) {
        due("lot(" + index + ", 0)", works.lot(index, 0), rock);
        due("lot(" + index + ", 1)", works.lot(index, 1), tin);
        due("lot(" + index + ", 2)", works.lot(index, 2), hardness);
    }

    private static void buddleTells(StampWorks works, int buddle, long rock, long tin, long grade) {
        due("buddle(" + buddle + ", 0)", works.buddle(buddle, 0), rock);
        due("buddle(" + buddle + ", 1)", works.buddle(buddle, 1), tin);
        due("buddle(" + buddle + ", 2)", works.buddle(buddle, 2), grade);
    }

    /** One box with one stamp of the load 60: it breaks all that comes, if that is soft. */
    private static StampWorks strongWorks() {
        StampWorks works = new StampWorks();
        works.addBox();
        works.hang(0, 60, 4);
        return works;
    }

    /** The box has sent rock of 14 and tin of 3 to buddle 0 (a fourth was slime). */
    private static StampWorks worksWithPoorBuddle() {
        StampWorks works = strongWorks();
        works.bring(18, 223, 1);
        works.run(1);
        return works;
    }

    /** The box has sent tin of 45 to buddle 2 (5 more were slime). */
    private static StampWorks worksWithRichBuddle() {
        StampWorks works = strongWorks();
        works.setBox(0, 50, 2);
        works.bring(50, 1000, 1);
        works.run(1);
        return works;
    }

    /** Buddle 0 holds 5800, the store rock of 440 and tin of 43. */
    private static StampWorks worksWithMixedStore() {
        StampWorks works = worksWithRichBuddle();
        works.wash(2, 10);
        for (int i = 0; i < 3; i++) {
            works.bring(5000, 0, 1);
        }
        Scenes.inflowAlways(works, 900);
        works.setSluice(20);
        works.setBox(0, 300, 0);
        works.run(29);
        works.setBox(0, 300, 1);
        works.run(10);
        works.wash(1, 10);
        return works;
    }

    // ---- promise 1

    private static void newObject() {
        StampWorks works = new StampWorks();
        counts(works, "of a new object", 0, 10000, 5, 0, 0, 0, 20, 0, 0, 0, 0, 0, 0, 0);
        for (int buddle = 0; buddle < 3; buddle++) {
            buddleTells(works, buddle, 0, 0, 0);
        }
        CHECKS.refused(works, "box(0, 0) of a new object", INDEX, () -> works.box(0, 0));
        CHECKS.refused(works, "lot(0, 0) of a new object", INDEX, () -> works.lot(0, 0));
        CHECKS.due("share() of a new object", works.share(), 0.0);
        for (int hour = 0; hour < 24; hour++) {
            due("first setInflow of " + hour, works.setInflow(hour, hour), 200);
        }
    }

    // ---- promise 2

    private static void setInflow() {
        StampWorks works = new StampWorks();
        due("setInflow(0, 900)", works.setInflow(0, 900), 200);
        due("setInflow(0, 0)", works.setInflow(0, 0), 900);
        due("setInflow(0, 7)", works.setInflow(0, 7), 0);
        due("setInflow(23, 1)", works.setInflow(23, 1), 200);
        due("setInflow(23, 1) again", works.setInflow(23, 1), 1);
        CHECKS.refused(works, "setInflow(-1, 5)", INDEX, () -> works.setInflow(-1, 5));
        CHECKS.refused(works, "setInflow(24, 5)", INDEX, () -> works.setInflow(24, 5));
        CHECKS.refused(works, "setInflow(24, -1)", INDEX, () -> works.setInflow(24, -1));
        CHECKS.refused(works, "setInflow(3, -1)", ARGUMENT, () -> works.setInflow(3, -1));
        CHECKS.refused(works, "setInflow(3, 901)", ARGUMENT, () -> works.setInflow(3, 901));
    }

    // ---- promise 3

    private static void setSluice() {
        StampWorks works = new StampWorks();
        due("setSluice(20)", works.setSluice(20), 5);
        due("count(2)", works.count(2), 20);
        due("setSluice(0)", works.setSluice(0), 20);
        due("setSluice(0) again", works.setSluice(0), 0);
        CHECKS.refused(works, "setSluice(-1)", ARGUMENT, () -> works.setSluice(-1));
        CHECKS.refused(works, "setSluice(21)", ARGUMENT, () -> works.setSluice(21));
    }

    // ---- promise 4

    private static void addBox() {
        StampWorks works = new StampWorks();
        for (int box = 0; box < 4; box++) {
            due("addBox()", works.addBox(), box);
            boxTells(works, box, 0, 50, 0, 5, 0, 0, 0, 0, 0, 0, 0, 0);
            due("count(3)", works.count(3), box + 1);
        }
        CHECKS.refused(works, "fifth addBox()", STATE, () -> works.addBox());
    }

    // ---- promise 5

    private static void hang() {
        StampWorks works = new StampWorks();
        CHECKS.refused(works, "hang without a box", INDEX, () -> works.hang(0, 40, 3));
        works.addBox();
        due("hang(0, 10, 1)", works.hang(0, 10, 1), 1);
        due("hang(0, 60, 4)", works.hang(0, 60, 4), 2);
        due("hang(0, 11, 1)", works.hang(0, 11, 1), 3);
        CHECKS.refused(works, "hang(-1, 9, 0)", INDEX, () -> works.hang(-1, 9, 0));
        CHECKS.refused(works, "hang(1, 40, 3)", INDEX, () -> works.hang(1, 40, 3));
        CHECKS.refused(works, "hang(0, 9, 1)", ARGUMENT, () -> works.hang(0, 9, 1));
        CHECKS.refused(works, "hang(0, 61, 1)", ARGUMENT, () -> works.hang(0, 61, 1));
        CHECKS.refused(works, "hang(0, 10, 0)", ARGUMENT, () -> works.hang(0, 10, 0));
        CHECKS.refused(works, "hang(0, 10, 5)", ARGUMENT, () -> works.hang(0, 10, 5));
        due("hang(0, 10, 3)", works.hang(0, 10, 3), 4);
        due("count(6), each stamp cut: 20 + 2 + 60 + 2 + 7", works.count(6), 91);
        CHECKS.refused(works, "fifth hang", STATE, () -> works.hang(0, 40, 3));
        CHECKS.refused(works, "fifth hang, of 5 cams", ARGUMENT, () -> works.hang(0, 40, 5));
    }

    // ---- promise 6

    private static void shoe() {
        StampWorks works = new StampWorks();
        works.addBox();
        CHECKS.refused(works, "shoe(0, 0) without a stamp", INDEX, () -> works.shoe(0, 0));
        works.hang(0, 40, 2);
        works.setSluice(20);
        works.run(3);
        works.hang(0, 10, 1);
        due("shoe(0, 1), new", works.shoe(0, 1), 0);
        due("shoe(0, 0)", works.shoe(0, 0), 3);
        due("shoe(0, 0) again", works.shoe(0, 0), 0);
        due("box(0, 10)", works.box(0, 10), 0);
        CHECKS.refused(works, "shoe(0, 2)", INDEX, () -> works.shoe(0, 2));
        CHECKS.refused(works, "shoe(0, -1)", INDEX, () -> works.shoe(0, -1));
        CHECKS.refused(works, "shoe(1, 0)", INDEX, () -> works.shoe(1, 0));
        CHECKS.refused(works, "shoe(-1, 0)", INDEX, () -> works.shoe(-1, 0));
    }

    // ---- promise 7

    private static void setBox() {
        StampWorks works = new StampWorks();
        CHECKS.refused(works, "setBox without a box", INDEX, () -> works.setBox(0, 10, 1));
        works.addBox();
        due("setBox(0, 300, 2)", works.setBox(0, 300, 2), 50);
        due("box(0, 1)", works.box(0, 1), 300);
        due("box(0, 2)", works.box(0, 2), 2);
        due("setBox(0, 0, 0)", works.setBox(0, 0, 0), 300);
        due("setBox(0, 1, 1)", works.setBox(0, 1, 1), 0);
        CHECKS.refused(works, "setBox(1, 301, 0)", INDEX, () -> works.setBox(1, 301, 0));
        CHECKS.refused(works, "setBox(-1, 10, 0)", INDEX, () -> works.setBox(-1, 10, 0));
        CHECKS.refused(works, "setBox(0, -1, 0)", ARGUMENT, () -> works.setBox(0, -1, 0));
        CHECKS.refused(works, "setBox(0, 301, 0)", ARGUMENT, () -> works.setBox(0, 301, 0));
        CHECKS.refused(works, "setBox(0, 10, -1)", ARGUMENT, () -> works.setBox(0, 10, -1));
        CHECKS.refused(works, "setBox(0, 10, 3)", ARGUMENT, () -> works.setBox(0, 10, 3));
    }

    // ---- promise 8

    private static void box() {
        StampWorks works = new StampWorks();
        works.addBox();
        works.hang(0, 40, 3);
        works.setBox(0, 300, 2);
        works.bring(1000, 120, 1);
        works.setSluice(1);
        due("run(1)", works.run(1), 8);
        // Of 264 and 36 of lumps 96 are broken, of these 48 more; 1 is slime, 10 go to the buddle.
        boxTells(works, 0, 1, 300, 2, 1, 179, 42, 33, 25, 6, 4, 0, 96);
        buddleTells(works, 2, 10, 0, 0);
        due("count(9)", works.count(9), 1);
        due("count(13)", works.count(13), 35);
        works.setSluice(0);
        works.run(1);
        due("box(0, 11) when the wheel stands", works.box(0, 11), 0);
        CHECKS.refused(works, "box(0, -1)", INDEX, () -> works.box(0, -1));
        CHECKS.refused(works, "box(0, 12)", INDEX, () -> works.box(0, 12));
        CHECKS.refused(works, "box(1, 0)", INDEX, () -> works.box(1, 0));
        CHECKS.refused(works, "box(-1, 0)", INDEX, () -> works.box(-1, 0));
    }

    // ---- promise 9

    private static void bring() {
        StampWorks works = new StampWorks();
        due("bring(7, 500, 1)", works.bring(7, 500, 1), 1);
        due("bring(5000, 1000, 9)", works.bring(5000, 1000, 9), 2);
        due("bring(1, 0, 5)", works.bring(1, 0, 5), 3);
        lotTells(works, 0, 4, 3, 1);
        lotTells(works, 1, 0, 5000, 9);
        lotTells(works, 2, 1, 0, 5);
        CHECKS.refused(works, "bring(0, 0, 1)", ARGUMENT, () -> works.bring(0, 0, 1));
        CHECKS.refused(works, "bring(5001, 0, 1)", ARGUMENT, () -> works.bring(5001, 0, 1));
        CHECKS.refused(works, "bring(10, -1, 1)", ARGUMENT, () -> works.bring(10, -1, 1));
        CHECKS.refused(works, "bring(10, 1001, 1)", ARGUMENT, () -> works.bring(10, 1001, 1));
        CHECKS.refused(works, "bring(10, 0, 0)", ARGUMENT, () -> works.bring(10, 0, 0));
        CHECKS.refused(works, "bring(10, 0, 10)", ARGUMENT, () -> works.bring(10, 0, 10));
        for (int lots = 4; lots <= 30; lots++) {
            due("bring(10, 0, 1)", works.bring(10, 0, 1), lots);
        }
        CHECKS.refused(works, "bring of a lot too many", STATE, () -> works.bring(10, 0, 1));
        CHECKS.refused(works, "bring of a wrong lot too many", ARGUMENT, () -> works.bring(10, 0, 0));
    }

    // ---- promise 10

    private static void lot() {
        StampWorks works = new StampWorks();
        works.bring(100, 250, 3);
        works.bring(200, 10, 4);
        lotTells(works, 0, 75, 25, 3);
        lotTells(works, 1, 198, 2, 4);
        CHECKS.refused(works, "lot(2, 0)", INDEX, () -> works.lot(2, 0));
        CHECKS.refused(works, "lot(-1, 0)", INDEX, () -> works.lot(-1, 0));
        CHECKS.refused(works, "lot(0, -1)", INDEX, () -> works.lot(0, -1));
        CHECKS.refused(works, "lot(0, 3)", INDEX, () -> works.lot(0, 3));
    }

    // ---- promise 11

    private static void run() {
        StampWorks works = new StampWorks();
        CHECKS.refused(works, "run(0)", ARGUMENT, () -> works.run(0));
        CHECKS.refused(works, "run(-1)", ARGUMENT, () -> works.run(-1));
        CHECKS.refused(works, "run(101)", ARGUMENT, () -> works.run(101));
        due("run(1)", works.run(1), 100);
        due("run(100)", works.run(100), 10000);
        due("count(0)", works.count(0), 101);
        for (int i = 0; i < 48; i++) {
            works.run(100);
        }
        CHECKS.refused(works, "run(100) at 4901", STATE, () -> works.run(100));
        CHECKS.refused(works, "foresee(100, 0) at 4901", STATE, () -> works.foresee(100, 0));
        due("foresee(99, 0) at 4901", works.foresee(99, 0), 9900);
        due("run(99)", works.run(99), 9900);
        due("count(0)", works.count(0), 5000);
        CHECKS.refused(works, "run(1) at 5000", STATE, () -> works.run(1));
        CHECKS.refused(works, "run(0) at 5000", ARGUMENT, () -> works.run(0));
        CHECKS.refused(works, "run(MAX) at 5000", ARGUMENT, () -> works.run(Integer.MAX_VALUE));
        CHECKS.refused(works, "foresee(1, 5) at 5000", INDEX, () -> works.foresee(1, 5));
        CHECKS.refused(works, "foresee(1, 0) at 5000", STATE, () -> works.foresee(1, 0));
        CHECKS.refused(works, "advise(1) at 5000", STATE, () -> works.advise(1));
        CHECKS.refused(works, "advise(49) at 5000", ARGUMENT, () -> works.advise(49));
    }

    private static void runWater() {
        StampWorks full = new StampWorks();
        Scenes.inflowAlways(full, 900);
        full.setSluice(0);
        due("run(11) of a shut sluice", full.run(11), 0);
        due("count(1)", full.count(1), 19900);
        full.run(1);
        due("count(1) of a full pond", full.count(1), 20000);
        full.setSluice(20);
        due("run(1) of an open sluice", full.run(1), 400);
        due("count(1), filled before it is taken from", full.count(1), 19200);

        StampWorks dry = new StampWorks();
        Scenes.inflowAlways(dry, 0);
        dry.setSluice(20);
        due("run(12)", dry.run(12), 4800);
        due("run(1) with the last 400", dry.run(1), 200);
        due("count(1)", dry.count(1), 0);
        due("run(1) without water", dry.run(1), 0);

        StampWorks table = new StampWorks();
        Scenes.inflowAlways(table, 0);
        table.setInflow(1, 7);
        table.setSluice(0);
        table.run(1);
        due("count(1) after the hour 0", table.count(1), 10000);
        table.run(1);
        due("count(1) after the hour 1", table.count(1), 10007);
        table.run(23);
        due("count(1) after the hour 24", table.count(1), 10007);
        table.run(1);
        due("count(1) after the hour 25", table.count(1), 10014);
    }

    private static void runFeed() {
        StampWorks works = new StampWorks();
        works.addBox();
        works.setSluice(0);
        works.bring(100, 500, 2);
        works.bring(100, 0, 9);
        works.bring(1000, 120, 4);
        works.setBox(0, 0, 0);
        works.run(1);
        boxTells(works, 0, 0, 0, 0, 5, 0, 0, 0, 0, 0, 0, 0, 0);
        works.setBox(0, 200, 0);
        works.run(1);
        boxTells(works, 0, 0, 200, 0, 9, 150, 0, 0, 50, 0, 0, 0, 0);
        due("count(4)", works.count(4), 1);
        works.setBox(0, 300, 0);
        works.bring(50, 0, 7);
        works.run(1);
        boxTells(works, 0, 0, 300, 0, 4, 414, 0, 0, 86, 0, 0, 0, 0);
        lotTells(works, 0, 616, 84, 4);
        works.run(2);
        due("count(5)", works.count(5), 150);
        works.run(1);
        boxTells(works, 0, 0, 300, 0, 7, 1080, 0, 0, 170, 0, 0, 0, 0);
        due("count(4)", works.count(4), 0);
        works.run(1);
        due("box(0, 3) with nothing in the hopper", works.box(0, 3), 7);

        StampWorks many = new StampWorks();
        many.addBox();
        many.setBox(0, 300, 0);
        for (int i = 0; i < 30; i++) {
            many.bring(10, 100, 1 + i % 9);
        }
        many.run(1);
        boxTells(many, 0, 0, 300, 0, 3, 270, 0, 0, 30, 0, 0, 0, 0);
        due("count(4)", many.count(4), 0);
        due("bring(5, 0, 2) to the emptied hopper", many.bring(5, 0, 2), 1);
        lotTells(many, 0, 5, 0, 2);
    }

    private static void runBlow() {
        StampWorks hard = new StampWorks();
        hard.addBox();
        hard.hang(0, 40, 3);
        hard.setBox(0, 300, 1);
        hard.bring(1000, 120, 9);
        due("run(1)", hard.run(1), 40);
        // The force 480 breaks 53 (480 / 9) of the lumps, and 26 (480 / 18) of these once more.
        boxTells(hard, 0, 1, 300, 1, 9, 217, 23, 0, 30, 4, 0, 0, 480);
        buddleTells(hard, 1, 24, 1, 40);

        StampWorks two = new StampWorks();
        two.addBox();
        two.addBox();
        two.hang(0, 40, 3);
        two.hang(0, 60, 4);
        due("run(1)", two.run(1), 18);
        due("box(0, 11), 216 and 432", two.box(0, 11), 648);
        due("box(1, 11), without a stamp", two.box(1, 11), 0);
        two.setSluice(0);
        two.setBox(1, 10, 0);
        two.bring(60, 1000, 3);
        two.run(1);
        due("count(13), 50 and 10", two.count(13), 60);
    }

    private static void runSlime() {
        int[] feeds = {1, 9, 10, 19, 20, 29, 50};
        int[] slimes = {1, 1, 1, 1, 2, 2, 5};
        for (int i = 0; i < feeds.length; i++) {
            StampWorks works = strongWorks();
            works.setBox(0, feeds[i], 0);
            works.bring(5000, 1000, 1);
            works.run(1);
            due("slime of " + feeds[i], works.count(9), slimes[i]);
            due("rest of " + feeds[i], works.buddle(0, 1), feeds[i] - slimes[i]);
        }
        StampWorks rock = strongWorks();
        rock.bring(5000, 0, 1);
        rock.run(1);
        due("slime of rock", rock.count(9), 0);
        due("rest of rock", rock.buddle(0, 0), 50);
    }

    private static void runGrate() {
        StampWorks works = strongWorks();
        Scenes.inflowAlways(works, 900);
        works.setSluice(20);
        works.setBox(0, 300, 1);
        works.bring(5000, 0, 1);
        works.bring(5000, 0, 1);
        works.run(1);
        due("buddle(1, 0) after an hour", works.buddle(1, 0), 200);
        due("box(0, 6)", works.box(0, 6), 100);
        works.run(29);
        due("buddle(1, 0), full", works.buddle(1, 0), 6000);
        due("box(0, 6)", works.box(0, 6), 3000);
        works.run(1);
        due("buddle(1, 0) takes no more", works.buddle(1, 0), 6000);
        due("box(0, 6)", works.box(0, 6), 3300);

        StampWorks two = strongWorks();
        two.addBox();
        two.hang(1, 60, 4);
        two.bring(80, 0, 1);
        due("run(1) of two boxes", two.run(1), 14);
        due("buddle(0, 0), 50 of the first box", two.buddle(0, 0), 80);
        two.bring(30, 1000, 1);
        two.bring(30, 0, 1);
        two.run(1);
        // The first box has 30 of tin and 20 of rock, the second 10 of rock.
        buddleTells(two, 0, 110, 27, 197);
    }

    private static void runWear() {
        StampWorks works = new StampWorks();
        Scenes.inflowAlways(works, 900);
        works.setSluice(20);
        works.addBox();
        works.hang(0, 40, 2);
        due("run(1)", works.run(1), 200);
        due("box(0, 10)", works.box(0, 10), 1);
        due("box(0, 11)", works.box(0, 11), 1600);
        works.run(1);
        due("box(0, 11) of a worn stamp", works.box(0, 11), 1584);
        works.run(87);
        due("box(0, 10) at 89", works.box(0, 10), 89);
        works.run(1);
        due("box(0, 10) at 90", works.box(0, 10), 90);
        works.run(10);
        due("box(0, 10) at 100", works.box(0, 10), 90);
        due("box(0, 11) at 100", works.box(0, 11), 160);

        StampWorks two = new StampWorks();
        two.setSluice(20);
        two.addBox();
        two.hang(0, 10, 1);
        two.run(1);
        two.hang(0, 10, 1);
        two.run(2);
        due("box(0, 10) of the wear 3 and 2", two.box(0, 10), 5);

        StampWorks spared = new StampWorks();
        spared.setSluice(20);
        spared.addBox();
        spared.hang(0, 42, 2);
        due("run(1)", spared.run(1), 195);
        due("box(0, 10) of less than 200 turns", spared.box(0, 10), 0);
        spared.run(1);
        due("box(0, 10), still", spared.box(0, 10), 0);
    }

    private static void runAllStamps() {
        StampWorks works = new StampWorks();
        for (int box = 0; box < 4; box++) {
            works.addBox();
            for (int stamp = 0; stamp < 4; stamp++) {
                works.hang(box, 60, 4);
            }
        }
        works.bring(200, 0, 1);
        works.setSluice(20);
        due("count(6)", works.count(6), 980);
        due("run(1)", works.run(1), 8);
        for (int box = 0; box < 4; box++) {
            due("box(" + box + ", 11)", works.box(box, 11), 768);
            due("box(" + box + ", 10)", works.box(box, 10), 0);
        }
        due("buddle(0, 0)", works.buddle(0, 0), 200);
    }

    // ---- promise 12

    private static void count() {
        StampWorks works = worksWithPoorBuddle();
        works.wash(0, 10);
        works.bring(100, 100, 2);
        // Of 11 of rock and 1 of tin the middle is 5 and 0.
        counts(works, "after a wash", 1, 10000, 5, 1, 2, 105, 80, 3, 2, 1, 1, 6, 0, 0);
        works.smelt(5);
        works.setSluice(0);
        works.run(1);
        counts(works, "later", 2, 10200, 0, 1, 1, 55, 80, 0, 0, 1, 1, 6, 1, 4);
        CHECKS.refused(works, "count(-1)", INDEX, () -> works.count(-1));
        CHECKS.refused(works, "count(14)", INDEX, () -> works.count(14));
    }

    // ---- promise 13

    private static void buddle() {
        StampWorks works = worksWithPoorBuddle();
        buddleTells(works, 0, 14, 3, 176);
        buddleTells(works, 1, 0, 0, 0);
        CHECKS.refused(works, "buddle(-1, 0)", INDEX, () -> works.buddle(-1, 0));
        CHECKS.refused(works, "buddle(3, 0)", INDEX, () -> works.buddle(3, 0));
        CHECKS.refused(works, "buddle(0, -1)", INDEX, () -> works.buddle(0, -1));
        CHECKS.refused(works, "buddle(0, 3)", INDEX, () -> works.buddle(0, 3));
        StampWorks rich = worksWithRichBuddle();
        buddleTells(rich, 2, 0, 45, 1000);
    }

    // ---- promise 14

    private static void wash() {
        StampWorks works = worksWithPoorBuddle();
        due("wash(0, 10)", works.wash(0, 10), 2);
        counts(works, "after wash(0, 10)", 1, 10000, 5, 1, 1, 5, 80, 3, 2, 1, 1, 6, 0, 0);
        lotTells(works, 0, 5, 0, 1);
        buddleTells(works, 0, 0, 0, 0);

        StampWorks rich = worksWithRichBuddle();
        due("wash(2, 90)", rich.wash(2, 90), 31);
        lotTells(rich, 0, 0, 7, 1);
        due("count(10)", rich.count(10), 7);

        int[] waters = {11, 12, 60, 88, 89};
        int[] heads = {43, 43, 36, 31, 31};
        for (int i = 0; i < waters.length; i++) {
            due("wash(2, " + waters[i] + ")", worksWithRichBuddle().wash(2, waters[i]), heads[i]);
        }

        StampWorks little = strongWorks();
        little.bring(2, 1000, 1);
        little.run(1);
        due("wash of 1", little.wash(0, 10), 0);
        due("no middle", little.count(4), 0);
        due("all is tail", little.count(10), 1);
    }

    private static void washRefused() {
        StampWorks works = worksWithPoorBuddle();
        CHECKS.refused(works, "wash(3, 9)", INDEX, () -> works.wash(3, 9));
        CHECKS.refused(works, "wash(-1, 50)", INDEX, () -> works.wash(-1, 50));
        CHECKS.refused(works, "wash(1, 9)", ARGUMENT, () -> works.wash(1, 9));
        CHECKS.refused(works, "wash(0, 91)", ARGUMENT, () -> works.wash(0, 91));
        CHECKS.refused(works, "wash(1, 50), empty", STATE, () -> works.wash(1, 50));
        for (int i = 0; i < 29; i++) {
            works.bring(10, 0, 1);
        }
        works.bring(10, 0, 1);
        CHECKS.refused(works, "wash(0, 50), full hopper", STATE, () -> works.wash(0, 50));
        works.setBox(0, 10, 0);
        works.run(1);
        due("wash(0, 50), 29 lots", works.wash(0, 50), 2);
        due("count(4)", works.count(4), 30);
    }

    // ---- promise 15

    private static void again() {
        StampWorks rich = worksWithRichBuddle();
        due("again(1) of nothing", rich.again(1), 0);
        rich.wash(2, 10);
        due("again(1)", rich.again(1), 43);
        buddleTells(rich, 1, 0, 43, 1000);
        due("count(8)", rich.count(8), 0);
        CHECKS.refused(rich, "again(-1)", INDEX, () -> rich.again(-1));
        CHECKS.refused(rich, "again(3)", INDEX, () -> rich.again(3));

        StampWorks mixed = worksWithMixedStore();
        due("rock of the store", mixed.count(7), 440);
        due("tin of the store", mixed.count(8), 43);
        due("again(0), as far as it holds", mixed.again(0), 200);
        buddleTells(mixed, 0, 5983, 17, 2);
        due("rock of the store", mixed.count(7), 257);
        due("tin of the store", mixed.count(8), 26);
        due("again(0), full", mixed.again(0), 0);
        due("again(2)", mixed.again(2), 283);
    }

    // ---- promise 16

    private static void smelt() {
        StampWorks rich = worksWithRichBuddle();
        CHECKS.refused(rich, "smelt(1) of nothing", STATE, () -> rich.smelt(1));
        CHECKS.refused(rich, "smelt(0)", ARGUMENT, () -> rich.smelt(0));
        CHECKS.refused(rich, "smelt(-5)", ARGUMENT, () -> rich.smelt(-5));
        rich.wash(2, 10);
        CHECKS.refused(rich, "smelt(44)", STATE, () -> rich.smelt(44));
        due("smelt(10)", rich.smelt(10), 9);
        due("count(8)", rich.count(8), 33);
        due("smelt(33)", rich.smelt(33), 29);
        counts(rich, "after smelting", 1, 10000, 5, 1, 1, 1, 80, 0, 0, 5, 1, 0, 38, 0);

        StampWorks poor = worksWithPoorBuddle();
        poor.wash(0, 10);
        due("smelt(5) of the grade 400", poor.smelt(5), 1);

        StampWorks mixed = worksWithMixedStore();
        due("smelt(300) of the grade 86", mixed.smelt(300), 0);
        due("rock left", mixed.count(7), 166);
        due("tin left", mixed.count(8), 17);
        due("metal", mixed.count(12), 0);
    }

    // ---- promise 17

    private static void foresee() {
        StampWorks works = strongWorks();
        works.bring(1000, 500, 1);
        long before = works.digest();
        due("foresee(3, 0)", works.foresee(3, 0), 75);
        due("foresee(3, 1)", works.foresee(3, 1), 10000);
        due("foresee(3, 2), 23 of an hour", works.foresee(3, 2), 69);
        due("foresee(3, 3), 2 of an hour", works.foresee(3, 3), 6);
        due("foresee(3, 4)", works.foresee(3, 4), 850);
        due("foresee(100, 4)", works.foresee(100, 4), 0);
        due("digest() after foresee", works.digest(), before);
        works.run(1);
        due("foresee(2, 3), of these hours alone", works.foresee(2, 3), 4);
        due("foresee(2, 2)", works.foresee(2, 2), 69);
        works.setInflow(1, 0);
        due("foresee(1, 1)", works.foresee(1, 1), 9800);
        CHECKS.refused(works, "foresee(0, 5)", ARGUMENT, () -> works.foresee(0, 5));
        CHECKS.refused(works, "foresee(101, 0)", ARGUMENT, () -> works.foresee(101, 0));
        CHECKS.refused(works, "foresee(1, -1)", INDEX, () -> works.foresee(1, -1));
        CHECKS.refused(works, "foresee(1, 5)", INDEX, () -> works.foresee(1, 5));
    }

    /** What is foreseen of works in the midst of all is what comes. */
    private static void foreseeAsRun() {
        StampWorks works = new StampWorks();
        Scenes.inflowAlways(works, 300);
        works.setSluice(20);
        works.addBox();
        works.addBox();
        works.hang(0, 40, 1);
        works.hang(1, 20, 1);
        works.setBox(0, 300, 2);
        works.setBox(1, 90, 2);
        works.bring(40, 500, 3);
        works.bring(5000, 700, 8);
        works.run(9);
        works.setSluice(17);
        int[] told = new int[5];
        for (int what = 0; what < 5; what++) {
            told[what] = works.foresee(10, what);
        }
        long tin = works.buddle(2, 1);
        long slime = works.count(9);
        due("foresee(10, 0)", told[0], works.run(10));
        due("foresee(10, 1)", told[1], works.count(1));
        due("foresee(10, 2)", told[2], works.buddle(2, 1));
        due("foresee(10, 3)", told[3], works.count(9) - slime);
        due("foresee(10, 4)", told[4], works.count(5));
        CHECKS.due("tin came to the buddle", works.buddle(2, 1) > tin, true);
        due("foresee(30, 4) without ore", works.foresee(30, 4), 0);
        due("box(0, 3) is not that of a trial", works.box(0, 3), 8);
    }

    // ---- promise 18

    private static void advise() {
        StampWorks works = new StampWorks();
        due("advise(48) without a box", works.advise(48), 0);
        works.addBox();
        works.hang(0, 60, 4);
        works.bring(5000, 1000, 1);
        long before = works.digest();
        due("advise(1), 45 of tin want 200 of water", works.advise(1), 5);
        due("digest() after advise", works.digest(), before);
        works.setBox(0, 44, 0);
        due("advise(1), 40 of tin want 160 of water", works.advise(1), 4);
        works.setBox(0, 300, 0);
        due("advise(1), the more the better", works.advise(1), 20);
        CHECKS.refused(works, "advise(0)", ARGUMENT, () -> works.advise(0));
        CHECKS.refused(works, "advise(49)", ARGUMENT, () -> works.advise(49));
    }

    // ---- promise 19

    private static void bestWater() {
        StampWorks poor = worksWithPoorBuddle();
        long before = poor.digest();
        due("bestWater(0, 0), no rock from 69 on", poor.bestWater(0, 0), 69);
        due("bestWater(0, 2)", poor.bestWater(0, 2), 69);
        due("bestWater(0, 3)", poor.bestWater(0, 3), -1);
        due("bestWater(1, 0), empty", poor.bestWater(1, 0), -1);
        due("bestWater(0, MAX)", poor.bestWater(0, Integer.MAX_VALUE), -1);
        due("digest() after bestWater", poor.digest(), before);
        CHECKS.refused(poor, "bestWater(-1, 0)", INDEX, () -> poor.bestWater(-1, 0));
        CHECKS.refused(poor, "bestWater(3, -1)", INDEX, () -> poor.bestWater(3, -1));
        CHECKS.refused(poor, "bestWater(1, -1)", ARGUMENT, () -> poor.bestWater(1, -1));

        StampWorks rich = worksWithRichBuddle();
        due("bestWater(2, 43), all of the same grade", rich.bestWater(2, 43), 10);
        due("bestWater(2, 44)", rich.bestWater(2, 44), -1);

        StampWorks little = strongWorks();
        little.bring(2, 1000, 1);
        little.run(1);
        due("bestWater(0, 0), a head of nothing", little.bestWater(0, 0), 10);
        due("bestWater(0, 1)", little.bestWater(0, 1), -1);
    }

    // ---- promise 20

    private static void share() {
        StampWorks works = worksWithRichBuddle();
        CHECKS.due("share() without metal", works.share(), 0.0);
        works.wash(2, 10);
        works.smelt(10);
        CHECKS.due("share() of metal 9, slime 5, tails 1", works.share(), 0.6);
        works.smelt(33);
        CHECKS.due("share() of metal 38, slime 5, tails 1", works.share(), 38.0 / 44.0);
    }

    // ---- promise 21

    private static void digest() {
        StampWorks fresh = new StampWorks();
        long[] inflow = new long[24];
        java.util.Arrays.fill(inflow, 200);
        due("digest() of a new object", fresh.digest(), digestOf(fresh, inflow, new long[0][]));

        StampWorks works = worksWithPoorBuddle();
        works.hang(0, 20, 1);
        works.addBox();
        works.addBox();
        works.hang(2, 10, 3);
        works.bring(70, 100, 3);
        works.wash(0, 10);
        works.bring(400, 200, 6);
        works.setSluice(20);
        inflow[5] = 6;
        works.setInflow(5, 6);
        works.run(2);
        works.shoe(0, 0);
        long[][] stamps = {{60, 4, 0, 20, 1, 0}, {}, {10, 3, 0}};
        due("digest()", works.digest(), digestOf(works, inflow, stamps));
    }

    private static long digestOf(StampWorks works, long[] inflow, long[][] stamps) {
        long sum = 499;
        for (int what = 0; what < 14; what++) {
            sum = sum * 31 + works.count(what);
        }
        for (long amount : inflow) {
            sum = sum * 31 + amount;
        }
        for (int box = 0; box < stamps.length; box++) {
            for (int what = 0; what < 12; what++) {
                sum = sum * 31 + works.box(box, what);
            }
            for (long number : stamps[box]) {
                sum = sum * 31 + number;
            }
        }
        for (int lot = 0; lot < works.count(4); lot++) {
            for (int what = 0; what < 3; what++) {
                sum = sum * 31 + works.lot(lot, what);
            }
        }
        for (int buddle = 0; buddle < 3; buddle++) {
            for (int what = 0; what < 3; what++) {
                sum = sum * 31 + works.buddle(buddle, what);
            }
        }
        return sum;
    }
}
