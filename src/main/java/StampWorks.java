/**
 * A tin works. Water from a pond turns a wheel that lifts stamps; they break ore in boxes, water
 * carries what is fine to buddles, and what these part is washed, smelted or stamped once more.
 */
public final class StampWorks {

    private static final int TABLE_HOURS = 24;
    private static final int INFLOW_MOST = 900;
    private static final int INFLOW_FIRST = 200;
    private static final int POND_MOST = 20000;
    private static final int POND_FIRST = 10000;
    private static final int SLUICE_MOST = 20;
    private static final int SLUICE_FIRST = 5;
    private static final int SLUICE_WATER = 40;

    private static final int LOAD_OF_BARE_WHEEL = 20;
    private static final int LOAD_PART = 4;
    private static final int TURNS_OF_WATER = 10;

    private static final int BOXES_MOST = 4;
    private static final int FEED_MOST = 300;
    private static final int FEED_FIRST = 50;
    private static final int STAMPS_MOST = 4;
    private static final int WEIGHT_LEAST = 10;
    private static final int WEIGHT_MOST = 60;
    private static final int CAMS_MOST = 4;
    private static final int WEAR_MOST = 90;
    private static final int WEAR_TURNS = 200;
    private static final int WHOLE_STAMP = 100;
    private static final int FORCE_PART = 1000;
    private static final int GRATE_PART = 4;
    private static final int SLIME_PART = 10;

    private static final int LOTS_MOST = 30;
    private static final int LOT_MOST = 5000;
    private static final int HARDNESS_MOST = 9;
    private static final int HARDNESS_FIRST = 5;
    private static final int HARDNESS_OF_MIDDLE = 1;
    private static final int THOUSAND = 1000;

    private static final int BUDDLES = 3;
    private static final int BUDDLE_MOST = 6000;
    private static final int WATER_LEAST = 10;
    private static final int WATER_MOST = 90;
    private static final int GRADE_TO_SMELT = 400;

    private static final int RUN_MOST = 100;
    private static final int ADVISE_MOST = 48;
    private static final int HOUR_MOST = 5000;

    private static final int BOX_WHATS = 12;
    private static final int LOT_WHATS = 3;
    private static final int COUNT_WHATS = 14;
    private static final int BUDDLE_WHATS = 3;
    private static final int FORESEE_WHATS = 5;

    private static final long DIGEST_FIRST = 499L;
    private static final long DIGEST_FACTOR = 31L;

    private final Works works;
    // Hours are tried out here. It is made once, so that looking ahead makes no new objects.
    private final Works trial;

    public StampWorks() {
        works = new Works();
        trial = new Works();
    }

    // ---- water

    public int setInflow(int hour, int amount) throws IndexOutOfBoundsException, IllegalArgumentException {
        if (hour < 0 || hour >= TABLE_HOURS) {
            throw new IndexOutOfBoundsException("the hour is not 0 to 23");
        }
        if (amount < 0 || amount > INFLOW_MOST) {
            throw new IllegalArgumentException("the amount is not 0 to 900");
        }
        int before = works.inflow[hour];
        works.inflow[hour] = amount;
        return before;
    }

    public int setSluice(int sluice) throws IllegalArgumentException {
        if (sluice < 0 || sluice > SLUICE_MOST) {
            throw new IllegalArgumentException("the sluice is not 0 to 20");
        }
        int before = works.sluice;
        works.sluice = sluice;
        return before;
    }

    // ---- boxes and stamps

    public int addBox() throws IllegalStateException {
        if (works.boxCount >= BOXES_MOST) {
            throw new IllegalStateException("there are 4 boxes");
        }
        works.boxCount++;
        return works.boxCount - 1;
    }

    public int hang(int box, int weight, int cams)
            throws IndexOutOfBoundsException, IllegalArgumentException, IllegalStateException {
        Box hung = boxNumbered(box);
        if (weight < WEIGHT_LEAST || weight > WEIGHT_MOST) {
            throw new IllegalArgumentException("the weight is not 10 to 60");
        }
        if (cams < 1 || cams > CAMS_MOST) {
            throw new IllegalArgumentException("the cams are not 1 to 4");
        }
        if (hung.stampCount >= STAMPS_MOST) {
            throw new IllegalStateException("the box has 4 stamps");
        }
        hung.addStamp(weight, cams);
        return hung.stampCount;
    }

    public int shoe(int box, int stamp) throws IndexOutOfBoundsException {
        Box shod = boxNumbered(box);
        if (stamp < 0 || stamp >= shod.stampCount) {
            throw new IndexOutOfBoundsException("there is no such stamp");
        }
        int before = shod.stamps[stamp].wear;
        shod.stamps[stamp].wear = 0;
        return before;
    }

    public int setBox(int box, int feed, int buddle) throws IndexOutOfBoundsException, IllegalArgumentException {
        Box set = boxNumbered(box);
        if (feed < 0 || feed > FEED_MOST) {
            throw new IllegalArgumentException("the feed is not 0 to 300");
        }
        if (buddle < 0 || buddle >= BUDDLES) {
            throw new IllegalArgumentException("the buddle is not 0 to 2");
        }
        int before = set.feed;
        set.feed = feed;
        set.buddle = buddle;
        return before;
    }

    public int box(int box, int what) throws IndexOutOfBoundsException {
        Box asked = boxNumbered(box);
        if (what < 0 || what >= BOX_WHATS) {
            throw new IndexOutOfBoundsException("a box tells 0 to 11");
        }
        return asked.tellOfBox(what);
    }

    // ---- ore

    public int bring(int amount, int tin, int hardness) throws IllegalArgumentException, IllegalStateException {
        if (amount < 1 || amount > LOT_MOST) {
            throw new IllegalArgumentException("the amount is not 1 to 5000");
        }
        if (tin < 0 || tin > THOUSAND) {
            throw new IllegalArgumentException("the tin is not 0 to 1000");
        }
        if (hardness < 1 || hardness > HARDNESS_MOST) {
            throw new IllegalArgumentException("the hardness is not 1 to 9");
        }
        refuseFullHopper();
        int tinOfLot = amount * tin / THOUSAND;
        works.hopper.addLot(amount - tinOfLot, tinOfLot, hardness);
        return works.hopper.count;
    }

    public int lot(int index, int what) throws IndexOutOfBoundsException {
        if (index < 0 || index >= works.hopper.count) {
            throw new IndexOutOfBoundsException("there is no such lot");
        }
        if (what < 0 || what >= LOT_WHATS) {
            throw new IndexOutOfBoundsException("a lot tells 0 to 2");
        }
        return works.hopper.lotAt(index).tellOfLot(what);
    }

    // ---- hours

    public int run(int hours) throws IllegalArgumentException, IllegalStateException {
        refuseHours(hours, RUN_MOST);
        refuseLateHour(hours);
        return works.passHours(hours);
    }

    public int count(int what) throws IndexOutOfBoundsException {
        if (what < 0 || what >= COUNT_WHATS) {
            throw new IndexOutOfBoundsException("the works tell 0 to 13");
        }
        return works.tellOfWorks(what);
    }

    public int buddle(int buddle, int what) throws IndexOutOfBoundsException {
        Ore asked = buddleNumbered(buddle);
        if (what < 0 || what >= BUDDLE_WHATS) {
            throw new IndexOutOfBoundsException("a buddle tells 0 to 2");
        }
        return asked.tellOfOre(what);
    }

    // ---- washing and smelting

    public int wash(int buddle, int water)
            throws IndexOutOfBoundsException, IllegalArgumentException, IllegalStateException {
        Ore washed = buddleNumbered(buddle);
        if (water < WATER_LEAST || water > WATER_MOST) {
            throw new IllegalArgumentException("the water is not 10 to 90");
        }
        if (washed.whole() == 0) {
            throw new IllegalStateException("the buddle is empty");
        }
        refuseFullHopper();
        return works.partByWater(washed, water);
    }

    public int again(int buddle) throws IndexOutOfBoundsException {
        Ore into = buddleNumbered(buddle);
        return works.store.moveTo(into, BUDDLE_MOST - into.whole());
    }

    public int smelt(int amount) throws IllegalArgumentException, IllegalStateException {
        if (amount < 1) {
            throw new IllegalArgumentException("the amount is less than 1");
        }
        if (amount > works.store.whole()) {
            throw new IllegalStateException("there is not so much in the store");
        }
        return works.smeltFromStore(amount);
    }

    // ---- looking ahead

    public int foresee(int hours, int what)
            throws IllegalArgumentException, IndexOutOfBoundsException, IllegalStateException {
        refuseHours(hours, RUN_MOST);
        if (what < 0 || what >= FORESEE_WHATS) {
            throw new IndexOutOfBoundsException("what is foreseen is 0 to 4");
        }
        refuseLateHour(hours);
        trial.copyWorks(works);
        int turns = trial.passHours(hours);
        switch (what) {
            case 0:
                return turns;
            case 1:
                return trial.pond;
            case 2:
                return trial.tinOfBuddles();
            case 3:
                return trial.slime - works.slime;
            default:
                return trial.hopper.oreOfLots();
        }
    }

    public int advise(int hours) throws IllegalArgumentException, IllegalStateException {
        refuseHours(hours, ADVISE_MOST);
        refuseLateHour(hours);
        int best = 0;
        int mostTin = -1;
        for (int sluice = 0; sluice <= SLUICE_MOST; sluice++) {
            trial.copyWorks(works);
            trial.sluice = sluice;
            trial.passHours(hours);
            int tin = trial.tinOfBuddles();
            if (tin > mostTin) {
                best = sluice;
                mostTin = tin;
            }
        }
        return best;
    }

    public int bestWater(int buddle, int tin) throws IndexOutOfBoundsException, IllegalArgumentException {
        Ore washed = buddleNumbered(buddle);
        if (tin < 0) {
            throw new IllegalArgumentException("the tin is less than 0");
        }
        if (washed.whole() == 0) {
            return -1;
        }
        int best = -1;
        int bestGrade = -1;
        for (int water = WATER_LEAST; water <= WATER_MOST; water++) {
            int headTin = tinOfHead(washed.tin, water);
            int grade = gradeOf(rockOfHead(washed.rock, water), headTin);
            if (headTin >= tin && grade > bestGrade) {
                best = water;
                bestGrade = grade;
            }
        }
        return best;
    }

    public double share() {
        long all = (long) works.metal + works.slime + works.tails.tin;
        if (all == 0) {
            return 0.0;
        }
        return (double) works.metal / (double) all;
    }

    public long digest() {
        long sum = DIGEST_FIRST;
        for (int what = 0; what < COUNT_WHATS; what++) {
            sum = join(sum, works.tellOfWorks(what));
        }
        for (int hour = 0; hour < TABLE_HOURS; hour++) {
            sum = join(sum, works.inflow[hour]);
        }
        for (int i = 0; i < works.boxCount; i++) {
            sum = joinBox(sum, works.boxes[i]);
        }
        for (int i = 0; i < works.hopper.count; i++) {
            sum = joinLot(sum, works.hopper.lotAt(i));
        }
        for (int i = 0; i < BUDDLES; i++) {
            sum = joinBuddle(sum, works.buddles[i]);
        }
        return sum;
    }

    // ---- behind the face

    private Box boxNumbered(int box) {
        if (box < 0 || box >= works.boxCount) {
            throw new IndexOutOfBoundsException("there is no such box");
        }
        return works.boxes[box];
    }

    private Ore buddleNumbered(int buddle) {
        if (buddle < 0 || buddle >= BUDDLES) {
            throw new IndexOutOfBoundsException("the buddle is not 0 to 2");
        }
        return works.buddles[buddle];
    }

    private void refuseFullHopper() {
        if (works.hopper.count >= LOTS_MOST) {
            throw new IllegalStateException("there are 30 lots in the hopper");
        }
    }

    private static void refuseHours(int hours, int most) {
        if (hours < 1 || hours > most) {
            throw new IllegalArgumentException("the hours are less than 1 or too many");
        }
    }

    private void refuseLateHour(int hours) {
        if (hours > HOUR_MOST - works.hour) {
            throw new IllegalStateException("the hour would be greater than 5000");
        }
    }

    private static long join(long sum, long number) {
        return sum * DIGEST_FACTOR + number;
    }

    private static long joinBox(long before, Box box) {
        long sum = before;
        for (int what = 0; what < BOX_WHATS; what++) {
            sum = join(sum, box.tellOfBox(what));
        }
        for (int i = 0; i < box.stampCount; i++) {
            sum = join(sum, box.stamps[i].weight);
            sum = join(sum, box.stamps[i].cams);
            sum = join(sum, box.stamps[i].wear);
        }
        return sum;
    }

    private static long joinLot(long before, Lot lot) {
        long sum = before;
        for (int what = 0; what < LOT_WHATS; what++) {
            sum = join(sum, lot.tellOfLot(what));
        }
        return sum;
    }

    private static long joinBuddle(long before, Ore buddle) {
        long sum = before;
        for (int what = 0; what < BUDDLE_WHATS; what++) {
            sum = join(sum, buddle.tellOfOre(what));
        }
        return sum;
    }

    private static int gradeOf(int rock, int tin) {
        return partOf(tin, THOUSAND, rock + tin);
    }

    private static int tinOfHead(int tin, int water) {
        return tin * (100 - water / 3) / 100;
    }

    private static int rockOfHead(int rock, int water) {
        return rock * ((100 - water) / 4) / 100;
    }

    // In long, because tin of a full store times an amount goes beyond an int.
    private static int partOf(int tin, int amount, int whole) {
        return whole < 1 ? 0 : (int) ((long) tin * amount / whole);
    }

    /** Rock and tin that lie together: a size of a box, a lot, a buddle, the store or the tails. */
    private static final class Ore {
        int rock;
        int tin;

        int whole() {
            return rock + tin;
        }

        int tellOfOre(int what) {
            switch (what) {
                case 0:
                    return rock;
                case 1:
                    return tin;
                default:
                    return gradeOf(rock, tin);
            }
        }

        void put(int moreRock, int moreTin) {
            rock += moreRock;
            tin += moreTin;
        }

        void become(int newRock, int newTin) {
            rock = newRock;
            tin = newTin;
        }

        void copyOre(Ore other) {
            become(other.rock, other.tin);
        }

        /** Moves at most so much, tin by its part, and tells how much that was. */
        int moveTo(Ore into, int most) {
            int amount = Math.min(most, whole());
            if (amount < 1) {
                return 0;
            }
            int tinMoved = partOf(tin, amount, whole());
            into.put(amount - tinMoved, tinMoved);
            put(tinMoved - amount, -tinMoved);
            return amount;
        }
    }

    /** Ore of the hopper. */
    private static final class Lot {
        final Ore ore;
        int hardness;

        Lot() {
            ore = new Ore();
        }

        int tellOfLot(int what) {
            return what == 2 ? hardness : ore.tellOfOre(what);
        }

        void copyLot(Lot other) {
            ore.copyOre(other.ore);
            hardness = other.hardness;
        }
    }

    /** The lots in their order: a ring, so that the first one goes without moving the others. */
    private static final class Hopper {
        final Lot[] ring;
        int first;
        int count;

        Hopper() {
            ring = new Lot[LOTS_MOST];
            for (int i = 0; i < LOTS_MOST; i++) {
                ring[i] = new Lot();
            }
        }

        Lot lotAt(int index) {
            return ring[Math.floorMod(first + index, LOTS_MOST)];
        }

        void addLot(int rock, int tin, int hardness) {
            Lot lot = lotAt(count);
            lot.ore.become(rock, tin);
            lot.hardness = hardness;
            count++;
        }

        void dropFirst() {
            first = Math.floorMod(first + 1, LOTS_MOST);
            count--;
        }

        int oreOfLots() {
            int all = 0;
            for (int i = 0; i < count; i++) {
                all += lotAt(i).ore.whole();
            }
            return all;
        }

        /** Gives a box its feed and tells the hardness that the box has then. */
        int feedInto(Ore lumps, int feed, int hardnessBefore) {
            int hardness = hardnessBefore;
            int left = feed;
            for (int i = 0; i < LOTS_MOST && left > 0 && count > 0; i++) {
                Lot lot = lotAt(0);
                left -= lot.ore.moveTo(lumps, left);
                hardness = lot.hardness;
                if (lot.ore.whole() == 0) {
                    dropFirst();
                }
            }
            return hardness;
        }

        void copyHopper(Hopper other) {
            first = other.first;
            count = other.count;
            for (int i = 0; i < count; i++) {
                lotAt(i).copyLot(other.lotAt(i));
            }
        }
    }

    /** What the wheel lifts and lets fall. */
    private static final class Stamp {
        int weight;
        int cams;
        int wear;

        int loadOfStamp() {
            return weight * cams / LOAD_PART;
        }

        int forceOfStamp(int turns) {
            return weight * cams * turns * (WHOLE_STAMP - wear) / FORCE_PART;
        }

        void wearBy(int turns) {
            wear = Math.min(WEAR_MOST, wear + turns / WEAR_TURNS);
        }

        void copyStamp(Stamp other) {
            weight = other.weight;
            cams = other.cams;
            wear = other.wear;
        }
    }

    /** Stamps and the ore below them, in three sizes. */
    private static final class Box {
        final Stamp[] stamps;
        final Ore lumps;
        final Ore grit;
        final Ore sand;
        int stampCount;
        int feed;
        int buddle;
        int hardness;
        int force;

        Box() {
            stamps = new Stamp[STAMPS_MOST];
            for (int i = 0; i < STAMPS_MOST; i++) {
                stamps[i] = new Stamp();
            }
            lumps = new Ore();
            grit = new Ore();
            sand = new Ore();
            feed = FEED_FIRST;
            hardness = HARDNESS_FIRST;
        }

        void addStamp(int weight, int cams) {
            Stamp stamp = stamps[stampCount];
            stamp.weight = weight;
            stamp.cams = cams;
            stampCount++;
        }

        int tellOfBox(int what) {
            switch (what) {
                case 0:
                    return stampCount;
                case 1:
                    return feed;
                case 2:
                    return buddle;
                case 3:
                    return hardness;
                case 4:
                    return lumps.rock;
                case 5:
                    return grit.rock;
                case 6:
                    return sand.rock;
                case 7:
                    return lumps.tin;
                case 8:
                    return grit.tin;
                case 9:
                    return sand.tin;
                case 10:
                    return wearOfStamps();
                default:
                    return force;
            }
        }

        int tinOfSizes() {
            return lumps.tin + grit.tin + sand.tin;
        }

        int wearOfStamps() {
            int all = 0;
            for (int i = 0; i < stampCount; i++) {
                all += stamps[i].wear;
            }
            return all;
        }

        int loadOfStamps() {
            int all = 0;
            for (int i = 0; i < stampCount; i++) {
                all += stamps[i].loadOfStamp();
            }
            return all;
        }

        int forceOfStamps(int turns) {
            int all = 0;
            for (int i = 0; i < stampCount; i++) {
                all += stamps[i].forceOfStamp(turns);
            }
            return all;
        }

        void blow(int turns) {
            force = forceOfStamps(turns);
            int divisor = Math.max(1, hardness);
            lumps.moveTo(grit, force / divisor);
            grit.moveTo(sand, force / (2 * divisor));
        }

        /** Tells the tin that is lost. */
        int loseSlime() {
            int lost = Math.min(sand.tin, Math.max(1, sand.tin / SLIME_PART));
            sand.tin -= lost;
            return lost;
        }

        void grate(Ore into, int water) {
            sand.moveTo(into, Math.min(water / GRATE_PART, BUDDLE_MOST - into.whole()));
        }

        void wearStamps(int turns) {
            for (int i = 0; i < stampCount; i++) {
                stamps[i].wearBy(turns);
            }
        }

        void copyBox(Box other) {
            stampCount = other.stampCount;
            for (int i = 0; i < stampCount; i++) {
                stamps[i].copyStamp(other.stamps[i]);
            }
            lumps.copyOre(other.lumps);
            grit.copyOre(other.grit);
            sand.copyOre(other.sand);
            feed = other.feed;
            buddle = other.buddle;
            hardness = other.hardness;
            force = other.force;
        }
    }

    /** All that the works hold, and how hours, washing and smelting change it. */
    private static final class Works {
        final int[] inflow;
        final Box[] boxes;
        final Hopper hopper;
        final Ore[] buddles;
        final Ore store;
        final Ore tails;
        int hour;
        int pond;
        int sluice;
        int boxCount;
        int slime;
        int metal;

        Works() {
            inflow = new int[TABLE_HOURS];
            for (int i = 0; i < TABLE_HOURS; i++) {
                inflow[i] = INFLOW_FIRST;
            }
            boxes = new Box[BOXES_MOST];
            for (int i = 0; i < BOXES_MOST; i++) {
                boxes[i] = new Box();
            }
            hopper = new Hopper();
            buddles = new Ore[BUDDLES];
            for (int i = 0; i < BUDDLES; i++) {
                buddles[i] = new Ore();
            }
            store = new Ore();
            tails = new Ore();
            pond = POND_FIRST;
            sluice = SLUICE_FIRST;
        }

        int tellOfWorks(int what) {
            switch (what) {
                case 0:
                    return hour;
                case 1:
                    return pond;
                case 2:
                    return sluice;
                case 3:
                    return boxCount;
                case 4:
                    return hopper.count;
                case 5:
                    return hopper.oreOfLots();
                case 6:
                    return loadOfWheel();
                case 7:
                    return store.rock;
                case 8:
                    return store.tin;
                case 9:
                    return slime;
                case 10:
                    return tails.tin;
                case 11:
                    return tails.rock;
                case 12:
                    return metal;
                default:
                    return tinOfBoxes();
            }
        }

        int loadOfWheel() {
            int all = LOAD_OF_BARE_WHEEL;
            for (int i = 0; i < boxCount; i++) {
                all += boxes[i].loadOfStamps();
            }
            return all;
        }

        int tinOfBoxes() {
            int all = 0;
            for (int i = 0; i < boxCount; i++) {
                all += boxes[i].tinOfSizes();
            }
            return all;
        }

        int tinOfBuddles() {
            int all = 0;
            for (int i = 0; i < BUDDLES; i++) {
                all += buddles[i].tin;
            }
            return all;
        }

        /** Tells how often the wheel turns in these hours. */
        int passHours(int hours) {
            int turns = 0;
            for (int i = 0; i < hours; i++) {
                turns += passHour();
            }
            return turns;
        }

        int passHour() {
            int taken = takeWater();
            int turns = taken * TURNS_OF_WATER / Math.max(1, loadOfWheel());
            for (int i = 0; i < boxCount; i++) {
                workBox(boxes[i], taken, turns);
            }
            hour++;
            return turns;
        }

        int takeWater() {
            int held = Math.min(POND_MOST, pond + inflow[Math.floorMod(hour, TABLE_HOURS)]);
            int taken = Math.min(held, sluice * SLUICE_WATER);
            pond = held - taken;
            return taken;
        }

        void workBox(Box box, int taken, int turns) {
            box.hardness = hopper.feedInto(box.lumps, box.feed, box.hardness);
            box.blow(turns);
            slime += box.loseSlime();
            box.grate(buddles[Math.floorMod(box.buddle, BUDDLES)], taken);
            box.wearStamps(turns);
        }

        /** Empties a buddle by washing and tells the tin of the head. */
        int partByWater(Ore buddle, int water) {
            int headRock = rockOfHead(buddle.rock, water);
            int headTin = tinOfHead(buddle.tin, water);
            int leftRock = buddle.rock - headRock;
            int leftTin = buddle.tin - headTin;
            int middleRock = leftRock / 2;
            int middleTin = leftTin / 2;
            store.put(headRock, headTin);
            if (middleRock + middleTin > 0) {
                hopper.addLot(middleRock, middleTin, HARDNESS_OF_MIDDLE);
            }
            tails.put(leftRock - middleRock, leftTin - middleTin);
            buddle.become(0, 0);
            return headTin;
        }

        /** Takes so much out of the store and tells the metal that comes of it. */
        int smeltFromStore(int amount) {
            int tin = partOf(store.tin, amount, store.whole());
            int rock = amount - tin;
            store.put(-rock, -tin);
            if (gradeOf(rock, tin) < GRADE_TO_SMELT) {
                return 0;
            }
            int gained = tin * 9 / 10;
            metal += gained;
            return gained;
        }

        /** Takes over what hours look at or change; store, tails and metal they leave alone. */
        void copyWorks(Works other) {
            System.arraycopy(other.inflow, 0, inflow, 0, TABLE_HOURS);
            boxCount = other.boxCount;
            for (int i = 0; i < boxCount; i++) {
                boxes[i].copyBox(other.boxes[i]);
            }
            hopper.copyHopper(other.hopper);
            for (int i = 0; i < BUDDLES; i++) {
                buddles[i].copyOre(other.buddles[i]);
            }
            hour = other.hour;
            pond = other.pond;
            sluice = other.sluice;
            slime = other.slime;
        }
    }
}
