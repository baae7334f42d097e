/** An aqueduct on arches, from a spring to a city. */
public final class ArchWater {
    private static final int MOST_ARCHES = 20;
    private static final int MOST_HEIGHT = 200;
    private static final int MOST_SIZE = 40;
    private static final int MOST_RATE = 30;
    private static final int MOST_WEAR = 50;
    private static final int MOST_FLOW = 40;
    private static final int MOST_CISTERN = 500;
    private static final int MOST_APPETITE = 30;
    private static final int MOST_TENTHS = 10;
    private static final int MOST_HOURS = 100;
    private static final int MOST_HOURS_ADVISED = 48;
    private static final int MOST_HOURS_TO_THIRST = 200;
    private static final int HOURS_OF_DAY = 24;
    private static final int HOUR_OF_WEAR = 23;
    private static final int FIRST_CISTERN = 100;
    private static final int LEAST_RATE = 2;
    private static final int DROPS_PER_WATER = 10;
    private static final int FLOUR_PER_COIN = 10;
    private static final int MENDED = 10;
    private static final int COUNTS = 12;
    private static final int ARCH_NUMBERS = 9;
    private static final int MILL_NUMBERS = 4;
    private static final int FORESEEN_NUMBERS = 4;
    private static final int NONE = -1;

    private final Aqueduct now = new Aqueduct();
    // What is foreseen is tried out here, so that nothing of the real aqueduct changes;
    // it is made once and used again, so that looking ahead makes no objects.
    private final Aqueduct trial = new Aqueduct();

    public ArchWater() {
    }

    // ---- arches, spring, city

    public int build(int height, int size) throws IllegalArgumentException, IllegalStateException {
        requireRange(height, 0, now.mostHeightOfNext());
        requireRange(size, 1, MOST_SIZE);
        if (now.arches >= MOST_ARCHES) {
            throw new IllegalStateException("there are as many arches as there can be");
        }
        return now.addArch(height, size);
    }

    public int setSpring(int hour, int water) throws IndexOutOfBoundsException, IllegalArgumentException {
        return setHour(now.springTable, hour, water);
    }

    public int setCity(int hour, int water) throws IndexOutOfBoundsException, IllegalArgumentException {
        return setHour(now.cityTable, hour, water);
    }

    public int setCistern(int holds) throws IllegalArgumentException {
        requireRange(holds, 0, MOST_CISTERN);
        return now.resizeCistern(holds);
    }

    public int arch(int arch, int what) throws IndexOutOfBoundsException {
        requireArch(arch);
        requireIndex(what, ARCH_NUMBERS);
        return now.archNumber(arch, what);
    }

    // ---- mills and masons

    public int addMill(int arch, int appetite)
            throws IndexOutOfBoundsException, IllegalArgumentException, IllegalStateException {
        requireArch(arch);
        requireRange(appetite, 1, MOST_APPETITE);
        Arch at = now.archAt(arch);
        if (at.hasMill()) {
            throw new IllegalStateException("there is a mill already");
        }
        at.appetite = appetite;
        return now.mills();
    }

    public int setSluice(int arch, int tenths)
            throws IndexOutOfBoundsException, IllegalArgumentException, IllegalStateException {
        requireArch(arch);
        requireRange(tenths, 0, MOST_TENTHS);
        Arch at = now.archAt(arch);
        if (!at.hasMill()) {
            throw new IllegalStateException("there is no mill");
        }
        int before = at.tenths;
        at.tenths = tenths;
        return before;
    }

    public int mill(int arch, int what) throws IndexOutOfBoundsException {
        requireArch(arch);
        requireIndex(what, MILL_NUMBERS);
        return now.archAt(arch).millNumber(what);
    }

    public int mend(int arch) throws IndexOutOfBoundsException, IllegalStateException {
        requireArch(arch);
        Arch at = now.archAt(arch);
        if (now.coins < 1) {
            throw new IllegalStateException("there is no coin");
        }
        if (at.wear == 0) {
            throw new IllegalStateException("the arch is not worn");
        }
        now.coins--;
        at.wear = Math.max(0, at.wear - MENDED);
        at.drops = 0;
        return at.wear;
    }

    public int quake(int arch, int by) throws IndexOutOfBoundsException, IllegalArgumentException {
        requireArch(arch);
        requireRange(by, 1, MOST_WEAR);
        Arch at = now.archAt(arch);
        at.wearBy(by);
        return at.wear;
    }

    // ---- hours

    public int pass(int hours) throws IllegalArgumentException {
        requireRange(hours, 1, MOST_HOURS);
        int before = now.thirst;
        now.goOn(hours);
        return now.thirst - before;
    }

    public int count(int what) throws IndexOutOfBoundsException {
        requireIndex(what, COUNTS);
        return now.countNumber(what);
    }

    // ---- looking ahead

    public int foresee(int hours, int what) throws IllegalArgumentException, IndexOutOfBoundsException {
        requireRange(hours, 1, MOST_HOURS);
        requireIndex(what, FORESEEN_NUMBERS);
        trial.copyFrom(now);
        trial.goOn(hours);
        switch (what) {
            case 0:
                return trial.thirst - now.thirst;
            case 1:
                return trial.leaked() - now.leaked();
            case 2:
                return trial.cistern;
            default:
                return trial.flour() - now.flour();
        }
    }

    public int advise(int hours) throws IllegalArgumentException {
        requireRange(hours, 1, MOST_HOURS_ADVISED);
        int best = NONE;
        int least = thirstWithClosed(NONE, hours);
        for (int i = 0; i < now.arches; i++) {
            if (now.archAt(i).hasOpenSluice()) {
                int thirst = thirstWithClosed(i, hours);
                if (thirst < least) {
                    least = thirst;
                    best = i;
                }
            }
        }
        return best;
    }

    public int thirsty() {
        trial.copyFrom(now);
        for (int hours = 1; hours <= MOST_HOURS_TO_THIRST; hours++) {
            trial.goOn(1);
            if (trial.thirst > now.thirst) {
                return hours;
            }
        }
        return NONE;
    }

    public int worst() {
        int worst = NONE;
        int most = 0;
        for (int i = 0; i < now.arches; i++) {
            int leaked = now.archAt(i).leaked;
            if (leaked > most) {
                most = leaked;
                worst = i;
            }
        }
        return worst;
    }

    public double reaches() {
        if (now.given == 0) {
            return 0.0;
        }
        return (double) now.drunk / (double) now.given;
    }

    public long digest() {
        long d = 601;
        for (int what = 0; what < COUNTS; what++) {
            d = d * 31 + now.countNumber(what);
        }
        for (int hour = 0; hour < HOURS_OF_DAY; hour++) {
            d = d * 31 + now.springTable[hour];
            d = d * 31 + now.cityTable[hour];
        }
        for (int i = 0; i < now.arches; i++) {
            d = digestArch(d, i);
        }
        return d;
    }

    private long digestArch(long start, int arch) {
        long d = start;
        for (int what = 0; what < ARCH_NUMBERS; what++) {
            d = d * 31 + now.archNumber(arch, what);
        }
        for (int what = 0; what < MILL_NUMBERS; what++) {
            d = d * 31 + now.archAt(arch).millNumber(what);
        }
        return d;
    }

    /** Thirst in the hours to come if the sluice at an arch were closed now; with NONE, as all are. */
    private int thirstWithClosed(int arch, int hours) {
        trial.copyFrom(now);
        if (arch >= 0 && arch < trial.arches) {
            trial.archAt(arch).tenths = 0;
        }
        trial.goOn(hours);
        return trial.thirst - now.thirst;
    }

    private static int setHour(int[] table, int hour, int water) {
        requireIndex(hour, HOURS_OF_DAY);
        requireRange(water, 0, MOST_FLOW);
        int before = table[hour];
        table[hour] = water;
        return before;
    }

    private void requireArch(int arch) {
        requireIndex(arch, now.arches);
    }

    private static void requireIndex(int index, int end) {
        if (index < 0 || index >= end) {
            throw new IndexOutOfBoundsException("there is none of this number");
        }
    }

    private static void requireRange(int number, int least, int most) {
        if (number < least || number > most) {
            throw new IllegalArgumentException("the number is too small or too great");
        }
    }

    /** An arch and, if its appetite is not 0, the mill at it. */
    private static final class Arch {
        int height;
        int size;
        int water;
        int wear;
        int drops;
        int leaked;
        int appetite;
        int tenths;
        int flour;
        int took;

        void copyFrom(Arch other) {
            height = other.height;
            size = other.size;
            water = other.water;
            wear = other.wear;
            drops = other.drops;
            leaked = other.leaked;
            appetite = other.appetite;
            tenths = other.tenths;
            flour = other.flour;
            took = other.took;
        }

        boolean hasMill() {
            return appetite > 0;
        }

        boolean hasOpenSluice() {
            return hasMill() && tenths > 0;
        }

        /** Takes in what it can hold yet, and tells how much that is. */
        int fill(int offered) {
            int taken = Math.min(offered, size - water);
            water += taken;
            return taken;
        }

        /** Leads to the mill its part of what is to go on; tells the rest. */
        int leadToMill(int going) {
            took = Math.min(going * tenths / MOST_TENTHS, appetite);
            water -= took;
            return going - took;
        }

        /** Makes flour of what the mill took; tells the coins that are paid for it. */
        int grind() {
            int paid = flour / FLOUR_PER_COIN;
            flour += took;
            return flour / FLOUR_PER_COIN - paid;
        }

        void leak() {
            drops += water * wear / 10;
            int lost = Math.min(drops / DROPS_PER_WATER, water);
            drops %= DROPS_PER_WATER;
            water -= lost;
            leaked += lost;
        }

        void wearOfDay() {
            if (water > 0) {
                wearBy(hasOpenSluice() ? 2 : 1);
            }
        }

        void wearBy(int more) {
            wear = Math.min(MOST_WEAR, wear + more);
        }

        int millNumber(int what) {
            if (!hasMill()) {
                return NONE;
            }
            switch (what) {
                case 0:
                    return appetite;
                case 1:
                    return tenths;
                case 2:
                    return flour;
                default:
                    return took;
            }
        }
    }

    /** The tables, the arches, the cistern and the tallies at one hour. */
    private static final class Aqueduct {
        final int[] springTable = new int[HOURS_OF_DAY];
        final int[] cityTable = new int[HOURS_OF_DAY];
        final Arch[] row = new Arch[MOST_ARCHES];
        int arches;
        int hour;
        int coins;
        int holds = FIRST_CISTERN;
        int cistern;
        int given;
        int spilt;
        int used;
        int drunk;
        int thirst;

        Aqueduct() {
            for (int i = 0; i < MOST_ARCHES; i++) {
                row[i] = new Arch();
            }
        }

        void copyFrom(Aqueduct other) {
            System.arraycopy(other.springTable, 0, springTable, 0, HOURS_OF_DAY);
            System.arraycopy(other.cityTable, 0, cityTable, 0, HOURS_OF_DAY);
            for (int i = 0; i < other.arches; i++) {
                row[i].copyFrom(other.row[i]);
            }
            arches = other.arches;
            hour = other.hour;
            coins = other.coins;
            holds = other.holds;
            cistern = other.cistern;
            given = other.given;
            spilt = other.spilt;
            used = other.used;
            drunk = other.drunk;
            thirst = other.thirst;
        }

        Arch archAt(int arch) {
            return row[arch];
        }

        int mostHeightOfNext() {
            return arches == 0 ? MOST_HEIGHT : row[arches - 1].height;
        }

        int addArch(int height, int size) {
            int arch = arches;
            row[arch].height = height;
            row[arch].size = size;
            arches++;
            return arch;
        }

        int resizeCistern(int most) {
            int over = Math.max(0, cistern - most);
            holds = most;
            cistern -= over;
            spilt += over;
            return over;
        }

        void goOn(int hours) {
            for (int i = 0; i < hours; i++) {
                goOnAnHour();
            }
        }

        private void goOnAnHour() {
            int ofDay = Math.floorMod(hour, HOURS_OF_DAY);
            letCityDrink(cityTable[ofDay]);
            for (int i = arches - 1; i >= 0; i--) {
                sendOn(i);
            }
            for (int i = 0; i < arches; i++) {
                grindAt(i);
            }
            letSpringGive(springTable[ofDay]);
            for (int i = 0; i < arches; i++) {
                row[i].leak();
            }
            if (ofDay == HOUR_OF_WEAR) {
                wearAll();
            }
            hour++;
        }

        private void letCityDrink(int wanted) {
            int drink = Math.min(wanted, cistern);
            cistern -= drink;
            drunk += drink;
            thirst += wanted - drink;
        }

        private void sendOn(int arch) {
            Arch from = row[arch];
            int going = Math.min(from.water, rate(arch));
            int rest = from.leadToMill(going);
            from.water -= pour(arch + 1, rest);
        }

        private void grindAt(int arch) {
            Arch at = row[arch];
            int half = at.took / 2;
            coins += at.grind();
            spilt += half - pour(arch + 2, half);
            used += at.took - half;
        }

        private void letSpringGive(int water) {
            given += water;
            int kept = arches == 0 ? 0 : row[0].fill(water);
            spilt += water - kept;
        }

        private void wearAll() {
            for (int i = 0; i < arches; i++) {
                row[i].wearOfDay();
            }
        }

        /** Pours water on an arch, or into the cistern if there is no such arch; tells how much it held. */
        private int pour(int arch, int water) {
            if (arch < arches) {
                return row[arch].fill(water);
            }
            int taken = Math.min(water, holds - cistern);
            cistern += taken;
            return taken;
        }

        private int slope(int arch) {
            int next = arch + 1 < arches ? row[arch + 1].height : 0;
            return row[arch].height - next;
        }

        private int rate(int arch) {
            return Math.min(MOST_RATE, LEAST_RATE + slope(arch));
        }

        int mills() {
            int mills = 0;
            for (int i = 0; i < arches; i++) {
                mills += row[i].hasMill() ? 1 : 0;
            }
            return mills;
        }

        int water() {
            int water = 0;
            for (int i = 0; i < arches; i++) {
                water += row[i].water;
            }
            return water;
        }

        int leaked() {
            int leaked = 0;
            for (int i = 0; i < arches; i++) {
                leaked += row[i].leaked;
            }
            return leaked;
        }

        int flour() {
            int flour = 0;
            for (int i = 0; i < arches; i++) {
                flour += row[i].flour;
            }
            return flour;
        }

        int archNumber(int arch, int what) {
            Arch at = row[arch];
            switch (what) {
                case 0:
                    return at.height;
                case 1:
                    return at.size;
                case 2:
                    return at.water;
                case 3:
                    return at.wear;
                case 4:
                    return at.drops;
                case 5:
                    return slope(arch);
                case 6:
                    return rate(arch);
                case 7:
                    return at.leaked;
                default:
                    return at.hasMill() ? 1 : 0;
            }
        }

        int countNumber(int what) {
            switch (what) {
                case 0:
                    return hour;
                case 1:
                    return arches;
                case 2:
                    return mills();
                case 3:
                    return coins;
                case 4:
                    return cistern;
                case 5:
                    return water();
                case 6:
                    return given;
                case 7:
                    return spilt;
                case 8:
                    return leaked();
                case 9:
                    return used;
                case 10:
                    return drunk;
                default:
                    return thirst;
            }
        }
    }
}
