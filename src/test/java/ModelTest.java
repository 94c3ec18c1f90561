import java.util.Random;

/** Long runs of calls, each answered by the class as by PlainWorks; in half of them a digest follows each. */
public final class ModelTest {
    private static final int RUNS = 1500;
    // What an object is good for; a digest is one of them.
    private static final int CALLS = 512;
    private static final int[] WRONG = {-1, Integer.MIN_VALUE, Integer.MAX_VALUE, -100, 1 << 30, 6000};

    private final Checks checks;
    private final Random random;
    private final String run;
    private final StampWorks works = new StampWorks();
    private final PlainWorks plain = new PlainWorks();
    // How one run differs from another: how often arguments are wrong, and how long hours go by.
    private final int wrongOf100;
    private final int hoursMost;
    private final boolean digestAfterEach;
    private int calls = 0;

    private ModelTest(Checks checks, int number) {
        this.checks = checks;
        run = "run " + number + ": ";
        random = new Random(number);
        wrongOf100 = number % 4 == 0 ? 15 : 1;
        hoursMost = number % 3 == 0 ? 100 : 1 + number % 12;
        digestAfterEach = number % 2 == 0;
    }

    public static void main(String[] args) {
        Checks checks = new Checks();
        for (int number = 0; number < RUNS; number++) {
            ModelTest test = new ModelTest(checks, number);
            while (test.calls + 2 < CALLS) {
                test.call();
            }
            test.sameDigest("the run");
        }
        checks.end();
    }

    /** A number of a range, at times its edge, at times one just beside it or far off. */
    private int of(int least, int most) {
        if (random.nextInt(100) < wrongOf100) {
            int kind = random.nextInt(WRONG.length + 2);
            return kind == 0 ? least - 1 : kind == 1 ? most + 1 : WRONG[kind - 2];
        }
        int kind = random.nextInt(10);
        return kind == 0 ? least : kind == 1 ? most : least + random.nextInt(most - least + 1);
    }

    private void same(String call, Checks.Call made, Checks.Call due) {
        calls++;
        checks.due(run + call, Checks.answer(made), Checks.answer(due));
        if (digestAfterEach) {
            sameDigest(call);
        }
    }

    private void sameDigest(String call) {
        calls++;
        checks.due(run + "digest() after " + call, works.digest(), plain.digest());
    }

    private void call() {
        int kind = random.nextInt(40);
        if (kind < 12) {
            setUp(kind);
        } else if (kind < 28) {
            change(kind);
        } else {
            ask(kind);
        }
    }

    private void setUp(int kind) {
        int box = of(0, 3);
        if (kind < 2) {
            int hour = of(0, 23);
            int amount = of(0, 900);
            same("setInflow", () -> works.setInflow(hour, amount), () -> plain.setInflow(hour, amount));
        } else if (kind < 4) {
            int sluice = of(0, 20);
            same("setSluice", () -> works.setSluice(sluice), () -> plain.setSluice(sluice));
        } else if (kind < 5) {
            same("addBox", () -> works.addBox(), () -> plain.addBox());
        } else if (kind < 7) {
            int weight = of(10, 60);
            int cams = of(1, 4);
            same("hang", () -> works.hang(box, weight, cams), () -> plain.hang(box, weight, cams));
        } else if (kind < 9) {
            int stamp = of(0, 3);
            same("shoe", () -> works.shoe(box, stamp), () -> plain.shoe(box, stamp));
        } else {
            int feed = of(0, 300);
            int buddle = of(0, 2);
            same("setBox", () -> works.setBox(box, feed, buddle), () -> plain.setBox(box, feed, buddle));
        }
    }

    private void change(int kind) {
        int buddle = of(0, 2);
        if (kind < 18) {
            int amount = of(1, random.nextInt(3) == 0 ? 5000 : 60);
            int tin = of(0, 1000);
            int hardness = of(1, 9);
            same("bring", () -> works.bring(amount, tin, hardness), () -> plain.bring(amount, tin, hardness));
        } else if (kind < 22) {
            int hours = of(1, hoursMost);
            same("run", () -> works.run(hours), () -> plain.run(hours));
        } else if (kind < 25) {
            int water = of(10, 90);
            same("wash", () -> works.wash(buddle, water), () -> plain.wash(buddle, water));
        } else if (kind < 26) {
            same("again", () -> works.again(buddle), () -> plain.again(buddle));
        } else {
            int amount = of(1, random.nextBoolean() ? 20 : 3000);
            same("smelt", () -> works.smelt(amount), () -> plain.smelt(amount));
        }
    }

    private void ask(int kind) {
        int first = of(0, 3);
        int buddle = of(0, 2);
        if (kind < 30) {
            int what = of(0, 11);
            same("box", () -> works.box(first, what), () -> plain.box(first, what));
        } else if (kind < 31) {
            int index = of(0, 29);
            int what = of(0, 2);
            same("lot", () -> works.lot(index, what), () -> plain.lot(index, what));
        } else if (kind < 32) {
            int what = of(0, 13);
            same("count", () -> works.count(what), () -> plain.count(what));
        } else if (kind < 33) {
            int what = of(0, 2);
            same("buddle", () -> works.buddle(buddle, what), () -> plain.buddle(buddle, what));
        } else if (kind < 36) {
            int hours = of(1, 100);
            int what = of(0, 4);
            same("foresee", () -> works.foresee(hours, what), () -> plain.foresee(hours, what));
        } else if (kind < 37) {
            int hours = of(1, 48);
            same("advise", () -> works.advise(hours), () -> plain.advise(hours));
        } else if (kind < 39) {
            int tin = of(0, random.nextBoolean() ? 30 : 6000);
            same("bestWater", () -> works.bestWater(buddle, tin), () -> plain.bestWater(buddle, tin));
        } else {
            same("share", () -> works.share(), () -> plain.share());
        }
    }
}
