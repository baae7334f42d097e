import java.util.function.Supplier;
import java.util.function.ToLongFunction;

/**
 * The bounds of each call: the last value that is taken, the first that is refused, what is thrown
 * if several exceptions apply, and that a refused call changes nothing. The number ahead of a check
 * is the promise's.
 */
public final class RefusalsTest {
    private static final int LEAST = Integer.MIN_VALUE;
    private static final int MOST = Integer.MAX_VALUE;
    private static final Supplier<ArchWater> NEW = ArchWater::new;
    private static final Supplier<ArchWater> DRY = RefusalsTest::dry;
    private static final Supplier<ArchWater> BUSY = RefusalsTest::busy;
    private static final Supplier<ArchWater> POOR = RefusalsTest::poor;
    private static final Supplier<ArchWater> NINETEEN = () -> manyArches(19);
    private static final Supplier<ArchWater> TWENTY = () -> manyArches(20);

    public static void main(String[] args) {
        newObject();
        buildHeight();
        buildSize();
        buildTheLast();
        setSpring();
        setCity();
        setCistern();
        arch();
        archWhat();
        addMill();
        addMillTwice();
        setSluice();
        setSluiceWithoutMill();
        mill();
        millWhat();
        mendNoSuchArch();
        mendWithoutCoin();
        mendNotWorn();
        quake();
        pass();
        count();
        foresee();
        advise();
        Check.end();
    }

    /** Three arches with water; mills at 0 (open) and 1 (closed), none at 2; 0 is worn; there are coins. */
    private static ArchWater busy() {
        ArchWater x = poor();
        x.setSluice(0, 5);
        x.pass(10);
        return x;
    }

    /** Like busy, but no mill has ground yet, so there is no coin. */
    private static ArchWater poor() {
        ArchWater x = new ArchWater();
        x.build(120, 40);
        x.build(90, 30);
        x.build(60, 20);
        // The spring gives enough to fill the cistern, so that what it can hold is foreseen.
        for (int hour = 0; hour < 24; hour++) {
            x.setSpring(hour, 20);
            x.setCity(hour, 6);
        }
        x.addMill(0, 8);
        x.addMill(1, 9);
        x.quake(0, 20);
        return x;
    }

    /** The city thirsts for 6 in each hour: nothing is built. */
    private static ArchWater dry() {
        ArchWater x = new ArchWater();
        for (int hour = 0; hour < 24; hour++) {
            x.setCity(hour, 6);
        }
        return x;
    }

    private static ArchWater manyArches(int arches) {
        ArchWater x = new ArchWater();
        for (int i = 0; i < arches; i++) {
            x.build(100, 10);
        }
        return x;
    }

    // 1: it has no arches, so each call that asks for one is refused
    private static void newObject() {
        index(NEW, "1: arch(0, 0)", x -> x.arch(0, 0));
        index(NEW, "1: addMill(0, 1)", x -> x.addMill(0, 1));
        index(NEW, "1: setSluice(0, 1)", x -> x.setSluice(0, 1));
        index(NEW, "1: mill(0, 0)", x -> x.mill(0, 0));
        index(NEW, "1: mend(0)", x -> x.mend(0));
        index(NEW, "1: quake(0, 1)", x -> x.quake(0, 1));
    }

    // 2
    private static void buildHeight() {
        taken(NEW, "2: the highest first arch", 0, x -> x.build(200, 5));
        argument(NEW, "2: a first arch too high", x -> x.build(201, 5));
        taken(NEW, "2: the lowest first arch", 0, x -> x.build(0, 5));
        argument(NEW, "2: a first arch too low", x -> x.build(-1, 5));
        argument(NEW, "2: a first arch far too high", x -> x.build(MOST, 5));
        argument(NEW, "2: a first arch far too low", x -> x.build(LEAST, 5));
        taken(BUSY, "2: as high as the one before it", 3, x -> x.build(60, 5));
        argument(BUSY, "2: higher than the one before it", x -> x.build(61, 5));
        argument(BUSY, "2: higher than the last one, not than the first one", x -> x.build(90, 5));
        taken(BUSY, "2: the lowest", 3, x -> x.build(0, 5));
        argument(BUSY, "2: too low", x -> x.build(-1, 5));
        argument(BUSY, "2: far too low", x -> x.build(LEAST, 5));
    }

    // 2
    private static void buildSize() {
        taken(NEW, "2: the least size", 0, x -> x.build(100, 1));
        argument(NEW, "2: no size", x -> x.build(100, 0));
        taken(NEW, "2: the greatest size", 0, x -> x.build(100, 40));
        argument(NEW, "2: a size too great", x -> x.build(100, 41));
        taken(BUSY, "2: the least size behind others", 3, x -> x.build(60, 1));
        argument(BUSY, "2: no size behind others", x -> x.build(60, 0));
        taken(BUSY, "2: the greatest size behind others", 3, x -> x.build(60, 40));
        argument(BUSY, "2: a size too great behind others", x -> x.build(60, 41));
        argument(BUSY, "2: a size below 0", x -> x.build(60, -1));
        argument(BUSY, "2: a size far too great", x -> x.build(60, MOST));
        argument(BUSY, "2: a size far too small", x -> x.build(60, LEAST));
    }

    // 2
    private static void buildTheLast() {
        taken(NINETEEN, "2: the 20th arch", 19, x -> x.build(100, 10));
        state(TWENTY, "2: the 21st arch", x -> x.build(100, 10));
        argument(TWENTY, "2: the 21st arch, too high", x -> x.build(101, 10));
        argument(TWENTY, "2: the 21st arch, too low", x -> x.build(-1, 10));
        argument(TWENTY, "2: the 21st arch, of no size", x -> x.build(100, 0));
        argument(TWENTY, "2: the 21st arch, too large", x -> x.build(100, 41));
    }

    // 3
    private static void setSpring() {
        taken(BUSY, "3: the first hour", 20, x -> x.setSpring(0, 5));
        index(BUSY, "3: an hour too early", x -> x.setSpring(-1, 5));
        taken(BUSY, "3: the last hour", 20, x -> x.setSpring(23, 5));
        index(BUSY, "3: an hour too late", x -> x.setSpring(24, 5));
        index(BUSY, "3: an hour far too early", x -> x.setSpring(LEAST, 5));
        index(BUSY, "3: an hour far too late", x -> x.setSpring(MOST, 5));
        taken(BUSY, "3: no water", 20, x -> x.setSpring(7, 0));
        argument(BUSY, "3: less than no water", x -> x.setSpring(7, -1));
        taken(BUSY, "3: the most water", 20, x -> x.setSpring(7, 40));
        argument(BUSY, "3: too much water", x -> x.setSpring(7, 41));
        argument(BUSY, "3: far too little water", x -> x.setSpring(7, LEAST));
        argument(BUSY, "3: far too much water", x -> x.setSpring(7, MOST));
        index(BUSY, "3: the hour and the water wrong", x -> x.setSpring(24, 41));
        index(BUSY, "3: the hour and the water below 0", x -> x.setSpring(-1, -1));
    }

    // 4
    private static void setCity() {
        taken(BUSY, "4: the first hour", 6, x -> x.setCity(0, 5));
        index(BUSY, "4: an hour too early", x -> x.setCity(-1, 5));
        taken(BUSY, "4: the last hour", 6, x -> x.setCity(23, 5));
        index(BUSY, "4: an hour too late", x -> x.setCity(24, 5));
        index(BUSY, "4: an hour far too early", x -> x.setCity(LEAST, 5));
        index(BUSY, "4: an hour far too late", x -> x.setCity(MOST, 5));
        taken(BUSY, "4: no water", 6, x -> x.setCity(7, 0));
        argument(BUSY, "4: less than no water", x -> x.setCity(7, -1));
        taken(BUSY, "4: the most water", 6, x -> x.setCity(7, 40));
        argument(BUSY, "4: too much water", x -> x.setCity(7, 41));
        argument(BUSY, "4: far too little water", x -> x.setCity(7, LEAST));
        argument(BUSY, "4: far too much water", x -> x.setCity(7, MOST));
        index(BUSY, "4: the hour and the water wrong", x -> x.setCity(24, 41));
        index(BUSY, "4: the hour and the water below 0", x -> x.setCity(-1, -1));
    }

    // 5
    private static void setCistern() {
        taken(NEW, "5: it holds nothing", 0, x -> x.setCistern(0));
        argument(NEW, "5: it holds less than nothing", x -> x.setCistern(-1));
        taken(NEW, "5: it holds the most", 0, x -> x.setCistern(500));
        argument(NEW, "5: it holds too much", x -> x.setCistern(501));
        argument(BUSY, "5: busy, it holds less than nothing", x -> x.setCistern(-1));
        argument(BUSY, "5: busy, it holds too much", x -> x.setCistern(501));
        argument(BUSY, "5: busy, it holds far too little", x -> x.setCistern(LEAST));
        argument(BUSY, "5: busy, it holds far too much", x -> x.setCistern(MOST));
    }

    // 6
    private static void arch() {
        looked(BUSY, "6: the first arch", 120, x -> x.arch(0, 0));
        index(BUSY, "6: before the first arch", x -> x.arch(-1, 0));
        looked(BUSY, "6: the last arch", 60, x -> x.arch(2, 0));
        index(BUSY, "6: behind the last arch", x -> x.arch(3, 0));
        looked(TWENTY, "6: the 20th arch", 100, x -> x.arch(19, 0));
        index(TWENTY, "6: behind the 20th arch", x -> x.arch(20, 0));
        index(BUSY, "6: far before the first arch", x -> x.arch(LEAST, 0));
        index(BUSY, "6: far behind the last arch", x -> x.arch(MOST, 0));
    }

    // 6
    private static void archWhat() {
        looked(BUSY, "6: the first number of an arch", 90, x -> x.arch(1, 0));
        index(BUSY, "6: before the first number", x -> x.arch(1, -1));
        looked(BUSY, "6: the last number of an arch", 1, x -> x.arch(1, 8));
        index(BUSY, "6: behind the last number", x -> x.arch(1, 9));
        index(BUSY, "6: far before the first number", x -> x.arch(1, LEAST));
        index(BUSY, "6: far behind the last number", x -> x.arch(1, MOST));
        index(BUSY, "6: no such arch and no such number", x -> x.arch(3, 9));
    }

    // 7
    private static void addMill() {
        taken(BUSY, "7: at the last arch", 3, x -> x.addMill(2, 5));
        index(BUSY, "7: behind the last arch", x -> x.addMill(3, 5));
        taken(TWENTY, "7: at the first arch", 1, x -> x.addMill(0, 5));
        index(BUSY, "7: before the first arch", x -> x.addMill(-1, 5));
        taken(TWENTY, "7: at the 20th arch", 1, x -> x.addMill(19, 5));
        index(TWENTY, "7: behind the 20th arch", x -> x.addMill(20, 5));
        index(BUSY, "7: far before the first arch", x -> x.addMill(LEAST, 5));
        index(BUSY, "7: far behind the last arch", x -> x.addMill(MOST, 5));
        taken(BUSY, "7: the least appetite", 3, x -> x.addMill(2, 1));
        argument(BUSY, "7: no appetite", x -> x.addMill(2, 0));
        taken(BUSY, "7: the greatest appetite", 3, x -> x.addMill(2, 30));
        argument(BUSY, "7: an appetite too great", x -> x.addMill(2, 31));
        argument(BUSY, "7: an appetite below 0", x -> x.addMill(2, -1));
        argument(BUSY, "7: an appetite far too small", x -> x.addMill(2, LEAST));
        argument(BUSY, "7: an appetite far too great", x -> x.addMill(2, MOST));
        index(BUSY, "7: no such arch, no appetite", x -> x.addMill(3, 0));
    }

    // 7
    private static void addMillTwice() {
        state(BUSY, "7: there is a mill that is open", x -> x.addMill(0, 5));
        state(BUSY, "7: there is a mill that is closed", x -> x.addMill(1, 5));
        state(BUSY, "7: there is one of the same appetite", x -> x.addMill(1, 9));
        argument(BUSY, "7: there is a mill, no appetite", x -> x.addMill(1, 0));
        argument(BUSY, "7: there is a mill, an appetite too great", x -> x.addMill(1, 31));
    }

    // 8
    private static void setSluice() {
        taken(BUSY, "8: the first mill", 5, x -> x.setSluice(0, 3));
        index(BUSY, "8: before the first arch", x -> x.setSluice(-1, 3));
        index(BUSY, "8: behind the last arch", x -> x.setSluice(3, 3));
        index(BUSY, "8: far before the first arch", x -> x.setSluice(LEAST, 3));
        index(BUSY, "8: far behind the last arch", x -> x.setSluice(MOST, 3));
        taken(BUSY, "8: closed", 5, x -> x.setSluice(0, 0));
        argument(BUSY, "8: more than closed", x -> x.setSluice(0, -1));
        taken(BUSY, "8: wide open", 5, x -> x.setSluice(0, 10));
        argument(BUSY, "8: more than wide open", x -> x.setSluice(0, 11));
        argument(BUSY, "8: far more than closed", x -> x.setSluice(0, LEAST));
        argument(BUSY, "8: far more than wide open", x -> x.setSluice(0, MOST));
        index(BUSY, "8: no such arch, 11 tenths", x -> x.setSluice(3, 11));
        index(BUSY, "8: no such arch, -1 tenths", x -> x.setSluice(-1, -1));
    }

    // 8
    private static void setSluiceWithoutMill() {
        taken(BUSY, "8: a mill was built, with a closed sluice", 0, x -> {
            x.addMill(2, 5);
            return x.setSluice(2, 3);
        });
        state(BUSY, "8: there is no mill", x -> x.setSluice(2, 3));
        state(BUSY, "8: there is no mill to close", x -> x.setSluice(2, 0));
        argument(BUSY, "8: there is no mill, 11 tenths", x -> x.setSluice(2, 11));
        argument(BUSY, "8: there is no mill, -1 tenths", x -> x.setSluice(2, -1));
    }

    // 9
    private static void mill() {
        looked(BUSY, "9: the first arch", 8, x -> x.mill(0, 0));
        index(BUSY, "9: before the first arch", x -> x.mill(-1, 0));
        looked(BUSY, "9: the last arch, without a mill", -1, x -> x.mill(2, 0));
        index(BUSY, "9: behind the last arch", x -> x.mill(3, 0));
        looked(TWENTY, "9: the 20th arch, without a mill", -1, x -> x.mill(19, 0));
        index(TWENTY, "9: behind the 20th arch", x -> x.mill(20, 0));
        index(BUSY, "9: far before the first arch", x -> x.mill(LEAST, 0));
        index(BUSY, "9: far behind the last arch", x -> x.mill(MOST, 0));
    }

    // 9
    private static void millWhat() {
        looked(BUSY, "9: the first number of a mill", 9, x -> x.mill(1, 0));
        index(BUSY, "9: before the first number", x -> x.mill(1, -1));
        looked(BUSY, "9: the last number of a mill", 8, x -> x.mill(0, 3));
        index(BUSY, "9: behind the last number", x -> x.mill(0, 4));
        looked(BUSY, "9: the last number without a mill", -1, x -> x.mill(2, 3));
        index(BUSY, "9: behind the last number without a mill", x -> x.mill(2, 4));
        index(BUSY, "9: before the first number without a mill", x -> x.mill(2, -1));
        index(BUSY, "9: far before the first number", x -> x.mill(0, LEAST));
        index(BUSY, "9: far behind the last number", x -> x.mill(0, MOST));
    }

    // 10
    private static void mendNoSuchArch() {
        taken(BUSY, "10: the first arch", 10, x -> x.mend(0));
        index(BUSY, "10: before the first arch", x -> x.mend(-1));
        taken(BUSY, "10: the last arch", 3, x -> {
            x.quake(2, 13);
            return x.mend(2);
        });
        index(BUSY, "10: behind the last arch", x -> x.mend(3));
        index(POOR, "10: behind the last arch without a coin", x -> x.mend(3));
        index(BUSY, "10: far before the first arch", x -> x.mend(LEAST));
        index(BUSY, "10: far behind the last arch", x -> x.mend(MOST));
    }

    // 10
    private static void mendWithoutCoin() {
        taken(RefusalsTest::withFlourOfTen, "10: the only coin", 40, x -> x.mend(0));
        state(RefusalsTest::withFlourOfNine, "10: no coin for 9 of flour", x -> x.mend(0));
        state(() -> {
            ArchWater x = withFlourOfTen();
            x.mend(0);
            return x;
        }, "10: the only coin is spent", x -> x.mend(0));
        state(POOR, "10: no coin yet", x -> x.mend(0));
        state(POOR, "10: no coin, and not worn", x -> x.mend(1));
    }

    private static ArchWater withFlourOfTen() {
        ArchWater x = withFlour(10);
        Check.due("10: coins for 10 of flour", x.count(3), 1);
        return x;
    }

    private static ArchWater withFlourOfNine() {
        ArchWater x = withFlour(9);
        Check.due("10: coins for 9 of flour", x.count(3), 0);
        return x;
    }

    private static ArchWater withFlour(int flour) {
        ArchWater x = new ArchWater();
        x.build(200, 40);
        x.addMill(0, flour);
        x.setSluice(0, 10);
        x.setSpring(0, flour);
        x.pass(2);
        x.quake(0, 50);
        return x;
    }

    // 10
    private static void mendNotWorn() {
        taken(BUSY, "10: worn by 1", 0, x -> {
            x.quake(1, 1);
            return x.mend(1);
        });
        state(BUSY, "10: not worn", x -> x.mend(1));
        state(() -> {
            ArchWater x = busy();
            x.quake(1, 10);
            x.mend(1);
            return x;
        }, "10: not worn any more", x -> x.mend(1));
    }

    // 11
    private static void quake() {
        taken(BUSY, "11: the first arch", 25, x -> x.quake(0, 5));
        index(BUSY, "11: before the first arch", x -> x.quake(-1, 5));
        taken(BUSY, "11: the last arch", 5, x -> x.quake(2, 5));
        index(BUSY, "11: behind the last arch", x -> x.quake(3, 5));
        taken(TWENTY, "11: the 20th arch", 5, x -> x.quake(19, 5));
        index(TWENTY, "11: behind the 20th arch", x -> x.quake(20, 5));
        index(BUSY, "11: far before the first arch", x -> x.quake(LEAST, 5));
        index(BUSY, "11: far behind the last arch", x -> x.quake(MOST, 5));
        taken(BUSY, "11: by the least", 1, x -> x.quake(1, 1));
        argument(BUSY, "11: by nothing", x -> x.quake(1, 0));
        taken(BUSY, "11: by the most", 50, x -> x.quake(1, 50));
        argument(BUSY, "11: by too much", x -> x.quake(1, 51));
        argument(BUSY, "11: by less than nothing", x -> x.quake(0, -1));
        argument(BUSY, "11: by far too little", x -> x.quake(0, LEAST));
        argument(BUSY, "11: by far too much", x -> x.quake(0, MOST));
        index(BUSY, "11: no such arch, by nothing", x -> x.quake(3, 0));
    }

    // 12
    private static void pass() {
        taken(DRY, "12: the fewest hours", 6, x -> x.pass(1));
        argument(BUSY, "12: no hours", x -> x.pass(0));
        taken(DRY, "12: the most hours", 600, x -> x.pass(100));
        argument(BUSY, "12: too many hours", x -> x.pass(101));
        argument(BUSY, "12: less than no hours", x -> x.pass(-1));
        argument(BUSY, "12: far too few hours", x -> x.pass(LEAST));
        argument(BUSY, "12: far too many hours", x -> x.pass(MOST));
        argument(NEW, "12: no hours without arches", x -> x.pass(0));
        argument(NEW, "12: too many hours without arches", x -> x.pass(101));
    }

    // 13
    private static void count() {
        looked(BUSY, "13: the first number", 10, x -> x.count(0));
        index(BUSY, "13: before the first number", x -> x.count(-1));
        looked(NEW, "13: the last number", 0, x -> x.count(11));
        index(NEW, "13: behind the last number", x -> x.count(12));
        index(BUSY, "13: far before the first number", x -> x.count(LEAST));
        index(BUSY, "13: far behind the last number", x -> x.count(MOST));
    }

    // 14
    private static void foresee() {
        looked(DRY, "14: the fewest hours", 6, x -> x.foresee(1, 0));
        argument(BUSY, "14: no hours", x -> x.foresee(0, 0));
        looked(DRY, "14: the most hours", 600, x -> x.foresee(100, 0));
        argument(BUSY, "14: too many hours", x -> x.foresee(101, 0));
        argument(BUSY, "14: less than no hours", x -> x.foresee(-1, 0));
        argument(BUSY, "14: far too few hours", x -> x.foresee(LEAST, 0));
        argument(BUSY, "14: far too many hours", x -> x.foresee(MOST, 0));
        looked(BUSY, "14: the first number", 0, x -> x.foresee(1, 0));
        index(BUSY, "14: before the first number", x -> x.foresee(1, -1));
        looked(BUSY, "14: the last number", 8, x -> x.foresee(1, 3));
        index(BUSY, "14: behind the last number", x -> x.foresee(1, 4));
        index(BUSY, "14: far before the first number", x -> x.foresee(100, LEAST));
        index(BUSY, "14: far behind the last number", x -> x.foresee(100, MOST));
        argument(BUSY, "14: no hours, and before the first number", x -> x.foresee(0, -1));
        argument(BUSY, "14: too many hours, and behind the last number", x -> x.foresee(101, 4));
        looked(NEW, "14: a new object", 0, x -> x.foresee(100, 2));
    }

    // 15
    private static void advise() {
        looked(BUSY, "15: the fewest hours", -1, x -> x.advise(1));
        argument(BUSY, "15: no hours", x -> x.advise(0));
        looked(BUSY, "15: the most hours", -1, x -> x.advise(48));
        argument(BUSY, "15: too many hours", x -> x.advise(49));
        argument(BUSY, "15: as many hours as pass takes", x -> x.advise(100));
        argument(BUSY, "15: less than no hours", x -> x.advise(-1));
        argument(BUSY, "15: far too few hours", x -> x.advise(LEAST));
        argument(BUSY, "15: far too many hours", x -> x.advise(MOST));
        argument(NEW, "15: no hours without arches", x -> x.advise(0));
        argument(NEW, "15: too many hours without arches", x -> x.advise(49));
    }

    private static void taken(Supplier<ArchWater> made, String call, long want, ToLongFunction<ArchWater> run) {
        Check.taken(made, call, want, run);
    }

    private static void looked(Supplier<ArchWater> made, String call, long want, ToLongFunction<ArchWater> run) {
        Check.looked(made, call, want, run);
    }

    private static void index(Supplier<ArchWater> made, String call, ToLongFunction<ArchWater> run) {
        Check.refused(made, call, Check.INDEX, run);
    }

    private static void argument(Supplier<ArchWater> made, String call, ToLongFunction<ArchWater> run) {
        Check.refused(made, call, Check.ARGUMENT, run);
    }

    private static void state(Supplier<ArchWater> made, String call, ToLongFunction<ArchWater> run) {
        Check.refused(made, call, Check.STATE, run);
    }
}
