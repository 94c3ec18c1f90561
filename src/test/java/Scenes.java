/** Works in a state that a test of a boundary wants, brought there by calls of the face alone. */
final class Scenes {
    private static final int GRATE_OF_STRONG = 200;

    private Scenes() {
    }

    static void inflowAlways(StampWorks works, int amount) {
        for (int hour = 0; hour < 24; hour++) {
            works.setInflow(hour, amount);
        }
    }

    /** The pond is empty in the hour 13, and from now on just so much (0 to 800) is taken in each hour. */
    static StampWorks taking(int water) {
        StampWorks works = new StampWorks();
        inflowAlways(works, 0);
        works.setSluice(20);
        works.run(13);
        inflowAlways(works, water);
        return works;
    }

    /** Box 0 has no stamp and no water, so that what is fed lies there as lumps. */
    static StampWorks feeding(int feed) {
        StampWorks works = taking(0);
        works.addBox();
        works.setBox(0, feed, 0);
        return works;
    }

    /** Box 0 has a stamp of the load 10: it strikes with the force 4 for each 3 of water. */
    static StampWorks striking(int water) {
        StampWorks works = taking(water);
        works.addBox();
        works.hang(0, 10, 4);
        works.setBox(0, 300, 0);
        return works;
    }

    /** Box 0 makes sand of all soft ore within the hour, and 200 an hour pass its grate. */
    static StampWorks strong() {
        StampWorks works = taking(800);
        works.addBox();
        works.hang(0, 60, 4);
        works.setBox(0, 300, 0);
        return works;
    }

    /** Strong works whose buddle 0 holds just this. */
    static StampWorks buddleOf(int rock, int tin) {
        StampWorks works = strong();
        putInto(works, 0, rock, tin);
        return works;
    }

    /** Lets strong works with an empty hopper carry just this to a buddle. */
    static void putInto(StampWorks works, int buddle, int rock, int tin) {
        works.setBox(0, 300, buddle);
        for (int left = rock; left > 0; left -= GRATE_OF_STRONG) {
            works.bring(Math.min(left, GRATE_OF_STRONG), 0, 1);
            works.run(1);
        }
        for (int left = tin; left > 0; left -= GRATE_OF_STRONG) {
            works.bring(tinBeforeSlime(Math.min(left, GRATE_OF_STRONG)), 1000, 1);
            works.run(1);
        }
    }

    private static int tinBeforeSlime(int tin) {
        int before = tin;
        while (before - Math.max(1, before / 10) < tin) {
            before++;
        }
        return before;
    }

    /** Strong works whose store holds just this; the washing's middle, if any, is the only lot. */
    static StampWorks storeOf(int rock, int tin) {
        StampWorks works = strong();
        putIntoStore(works, rock, tin);
        return works;
    }

    /** Washing with the water 10 brings 22 of 100 of the rock and 97 of 100 of the tin to the store. */
    static void putIntoStore(StampWorks works, int rock, int tin) {
        putInto(works, 2, (100 * rock + 21) / 22, (100 * tin + 96) / 97);
        works.wash(2, 10);
        works.setBox(0, 300, 0);
    }

    static void fillHopper(StampWorks works, int lots) {
        while (works.count(4) < lots) {
            works.bring(10, 0, 1);
        }
    }

    /** New works that let so many hours go by. */
    static StampWorks atHour(int hour) {
        StampWorks works = new StampWorks();
        for (int left = hour; left > 0; left -= 100) {
            works.run(Math.min(left, 100));
        }
        return works;
    }

    /** Works with something everywhere: two boxes, lots, sand, buddles, a store, slime, tails and metal. */
    static StampWorks busy() {
        StampWorks works = storeOf(60, 90);
        works.smelt(40);
        putInto(works, 1, 30, 40);
        works.addBox();
        works.hang(1, 40, 3);
        works.hang(1, 10, 1);
        works.setBox(1, 70, 1);
        works.bring(700, 300, 4);
        works.bring(500, 120, 7);
        works.setSluice(12);
        works.setInflow(3, 77);
        works.run(3);
        return works;
    }
}
