import java.util.ArrayList;
import java.util.Arrays;
import java.util.List;

/**
 * The document said once more, with no thought of room: every amount a long, every lot and stamp an
 * array, every look ahead a copy of the whole. ModelTest holds the class against it.
 */
final class PlainWorks {
    private long[] inflow = new long[24];
    private long hour = 0;
    private long pond = 10000;
    private long sluice = 5;
    private List<PlainBox> boxes = new ArrayList<>();
    private List<long[]> lots = new ArrayList<>();
    private long[][] buddles = new long[3][2];
    private long[] store = new long[2];
    private long[] tails = new long[2];
    private long slime = 0;
    private long metal = 0;

    private static final class PlainBox {
        long feed = 50;
        long buddle = 0;
        long hardness = 5;
        long force = 0;
        long[][] sizes = new long[3][2];
        List<long[]> stamps = new ArrayList<>();

        PlainBox copy() {
            PlainBox other = new PlainBox();
            other.feed = feed;
            other.buddle = buddle;
            other.hardness = hardness;
            other.force = force;
            other.sizes = copyOf(sizes);
            other.stamps = copyOf(stamps);
            return other;
        }
    }

    PlainWorks() {
        Arrays.fill(inflow, 200);
    }

    private PlainWorks copy() {
        PlainWorks other = new PlainWorks();
        other.inflow = inflow.clone();
        other.hour = hour;
        other.pond = pond;
        other.sluice = sluice;
        for (PlainBox box : boxes) {
            other.boxes.add(box.copy());
        }
        other.lots = copyOf(lots);
        other.buddles = copyOf(buddles);
        other.store = store.clone();
        other.tails = tails.clone();
        other.slime = slime;
        other.metal = metal;
        return other;
    }

    private static List<long[]> copyOf(List<long[]> rows) {
        List<long[]> copies = new ArrayList<>();
        for (long[] row : rows) {
            copies.add(row.clone());
        }
        return copies;
    }

    private static long[][] copyOf(long[][] rows) {
        return copyOf(Arrays.asList(rows)).toArray(new long[0][]);
    }

    private static void index(boolean holds) {
        if (!holds) {
            throw new IndexOutOfBoundsException();
        }
    }

    private static void argument(boolean holds) {
        if (!holds) {
            throw new IllegalArgumentException();
        }
    }

    private static void state(boolean holds) {
        if (!holds) {
            throw new IllegalStateException();
        }
    }

    private static boolean in(long number, long least, long most) {
        return number >= least && number <= most;
    }

    /** Ore is rock and tin, in this order. */
    private static long move(long[] from, long[] to, long most) {
        long all = from[0] + from[1];
        long amount = Math.min(most, all);
        if (all == 0) {
            return 0;
        }
        long tin = from[1] * amount / all;
        from[1] -= tin;
        to[1] += tin;
        from[0] -= amount - tin;
        to[0] += amount - tin;
        return amount;
    }

    private static long grade(long rock, long tin) {
        return rock + tin == 0 ? 0 : tin * 1000 / (rock + tin);
    }

    private long load() {
        long load = 20;
        for (PlainBox box : boxes) {
            for (long[] stamp : box.stamps) {
                load += stamp[0] * stamp[1] / 4;
            }
        }
        return load;
    }

    private long hours(long hours) {
        long all = 0;
        for (long i = 0; i < hours; i++) {
            pond = Math.min(20000, pond + inflow[(int) (hour % 24)]);
            long taken = Math.min(pond, sluice * 40);
            pond -= taken;
            long turns = taken * 10 / load();
            for (PlainBox box : boxes) {
                hourOf(box, taken, turns);
            }
            hour++;
            all += turns;
        }
        return all;
    }

    private void hourOf(PlainBox box, long taken, long turns) {
        long wanted = box.feed;
        while (wanted > 0 && !lots.isEmpty()) {
            long[] lot = lots.get(0);
            wanted -= move(lot, box.sizes[0], wanted);
            box.hardness = lot[2];
            if (lot[0] + lot[1] == 0) {
                lots.remove(0);
            }
        }
        box.force = 0;
        for (long[] stamp : box.stamps) {
            box.force += stamp[0] * stamp[1] * turns * (100 - stamp[2]) / 1000;
        }
        move(box.sizes[0], box.sizes[1], box.force / box.hardness);
        move(box.sizes[1], box.sizes[2], box.force / (2 * box.hardness));
        long[] sand = box.sizes[2];
        if (sand[1] > 0) {
            long lost = sand[1] < 10 ? 1 : sand[1] / 10;
            sand[1] -= lost;
            slime += lost;
        }
        long[] buddle = buddles[(int) box.buddle];
        move(sand, buddle, Math.min(taken / 4, 6000 - buddle[0] - buddle[1]));
        for (long[] stamp : box.stamps) {
            stamp[2] = Math.min(90, stamp[2] + turns / 200);
        }
    }

    private long tinOfBuddles() {
        return buddles[0][1] + buddles[1][1] + buddles[2][1];
    }

    private long oreOfHopper() {
        long all = 0;
        for (long[] lot : lots) {
            all += lot[0] + lot[1];
        }
        return all;
    }

    long setInflow(int at, int amount) {
        index(in(at, 0, 23));
        argument(in(amount, 0, 900));
        long before = inflow[at];
        inflow[at] = amount;
        return before;
    }

    long setSluice(int open) {
        argument(in(open, 0, 20));
        long before = sluice;
        sluice = open;
        return before;
    }

    long addBox() {
        state(boxes.size() < 4);
        boxes.add(new PlainBox());
        return boxes.size() - 1;
    }

    long hang(int box, int weight, int cams) {
        index(in(box, 0, boxes.size() - 1));
        argument(in(weight, 10, 60) && in(cams, 1, 4));
        List<long[]> stamps = boxes.get(box).stamps;
        state(stamps.size() < 4);
        stamps.add(new long[] {weight, cams, 0});
        return stamps.size();
    }

    long shoe(int box, int stamp) {
        index(in(box, 0, boxes.size() - 1) && in(stamp, 0, boxes.get(box).stamps.size() - 1));
        long[] shod = boxes.get(box).stamps.get(stamp);
        long before = shod[2];
        shod[2] = 0;
        return before;
    }

    long setBox(int box, int feed, int buddle) {
        index(in(box, 0, boxes.size() - 1));
        argument(in(feed, 0, 300) && in(buddle, 0, 2));
        long before = boxes.get(box).feed;
        boxes.get(box).feed = feed;
        boxes.get(box).buddle = buddle;
        return before;
    }

    long box(int box, int what) {
        index(in(box, 0, boxes.size() - 1) && in(what, 0, 11));
        PlainBox asked = boxes.get(box);
        long wear = 0;
        for (long[] stamp : asked.stamps) {
            wear += stamp[2];
        }
        long[][] sizes = asked.sizes;
        long[] told = {
            asked.stamps.size(), asked.feed, asked.buddle, asked.hardness,
            sizes[0][0], sizes[1][0], sizes[2][0], sizes[0][1], sizes[1][1], sizes[2][1], wear, asked.force,
        };
        return told[what];
    }

    long bring(int amount, int tin, int hardness) {
        argument(in(amount, 1, 5000) && in(tin, 0, 1000) && in(hardness, 1, 9));
        state(lots.size() < 30);
        long tinOfLot = (long) amount * tin / 1000;
        lots.add(new long[] {amount - tinOfLot, tinOfLot, hardness});
        return lots.size();
    }

    long lot(int at, int what) {
        index(in(at, 0, lots.size() - 1) && in(what, 0, 2));
        return lots.get(at)[what];
    }

    long run(int hours) {
        argument(in(hours, 1, 100));
        state(hour + hours <= 5000);
        return hours(hours);
    }

    long count(int what) {
        index(in(what, 0, 13));
        long tinOfBoxes = 0;
        for (PlainBox box : boxes) {
            tinOfBoxes += box.sizes[0][1] + box.sizes[1][1] + box.sizes[2][1];
        }
        long[] told = {
            hour, pond, sluice, boxes.size(), lots.size(), oreOfHopper(), load(), store[0], store[1],
            slime, tails[1], tails[0], metal, tinOfBoxes,
        };
        return told[what];
    }

    long buddle(int buddle, int what) {
        index(in(buddle, 0, 2) && in(what, 0, 2));
        long[] ore = buddles[buddle];
        return what == 2 ? grade(ore[0], ore[1]) : ore[what];
    }

    long wash(int buddle, int water) {
        index(in(buddle, 0, 2));
        argument(in(water, 10, 90));
        long[] ore = buddles[buddle];
        state(ore[0] + ore[1] > 0 && lots.size() < 30);
        long tin = ore[1] * (100 - water / 3) / 100;
        long rock = ore[0] * ((100 - water) / 4) / 100;
        store[0] += rock;
        store[1] += tin;
        long[] middle = {(ore[0] - rock) / 2, (ore[1] - tin) / 2, 1};
        if (middle[0] + middle[1] > 0) {
            lots.add(middle);
        }
        tails[0] += ore[0] - rock - middle[0];
        tails[1] += ore[1] - tin - middle[1];
        buddles[buddle] = new long[2];
        return tin;
    }

    long again(int buddle) {
        index(in(buddle, 0, 2));
        long[] ore = buddles[buddle];
        return move(store, ore, 6000 - ore[0] - ore[1]);
    }

    long smelt(int amount) {
        argument(amount >= 1);
        state(amount <= store[0] + store[1]);
        long[] taken = new long[2];
        move(store, taken, amount);
        long gained = grade(taken[0], taken[1]) >= 400 ? taken[1] * 9 / 10 : 0;
        metal += gained;
        return gained;
    }

    long foresee(int hours, int what) {
        argument(in(hours, 1, 100));
        index(in(what, 0, 4));
        state(hour + hours <= 5000);
        PlainWorks then = copy();
        long turns = then.hours(hours);
        long[] told = {turns, then.pond, then.tinOfBuddles(), then.slime - slime, then.oreOfHopper()};
        return told[what];
    }

    long advise(int hours) {
        argument(in(hours, 1, 48));
        state(hour + hours <= 5000);
        long[] tins = new long[21];
        for (int open = 0; open <= 20; open++) {
            PlainWorks then = copy();
            then.sluice = open;
            then.hours(hours);
            tins[open] = then.tinOfBuddles();
        }
        long most = Arrays.stream(tins).max().getAsLong();
        int open = 0;
        while (tins[open] < most) {
            open++;
        }
        return open;
    }

    long bestWater(int buddle, int tin) {
        index(in(buddle, 0, 2));
        argument(tin >= 0);
        long[] ore = buddles[buddle];
        long best = -1;
        long bestGrade = -1;
        for (int water = 90; water >= 10; water--) {
            long headTin = ore[1] * (100 - water / 3) / 100;
            long headRock = ore[0] * ((100 - water) / 4) / 100;
            if (headTin >= tin && grade(headRock, headTin) >= bestGrade) {
                best = water;
                bestGrade = grade(headRock, headTin);
            }
        }
        return ore[0] + ore[1] == 0 ? -1 : best;
    }

    double share() {
        long all = metal + slime + tails[1];
        return all == 0 ? 0 : (double) metal / all;
    }

    long digest() {
        List<Long> told = new ArrayList<>();
        for (int what = 0; what < 14; what++) {
            told.add(count(what));
        }
        for (long amount : inflow) {
            told.add(amount);
        }
        for (int box = 0; box < boxes.size(); box++) {
            for (int what = 0; what < 12; what++) {
                told.add(box(box, what));
            }
            for (long[] stamp : boxes.get(box).stamps) {
                told.addAll(List.of(stamp[0], stamp[1], stamp[2]));
            }
        }
        for (long[] lot : lots) {
            told.addAll(List.of(lot[0], lot[1], lot[2]));
        }
        for (int buddle = 0; buddle < 3; buddle++) {
            for (int what = 0; what < 3; what++) {
                told.add(buddle(buddle, what));
            }
        }
        long sum = 499;
        for (long number : told) {
            sum = sum * 31 + number;
        }
        return sum;
    }
}
