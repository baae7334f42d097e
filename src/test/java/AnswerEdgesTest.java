import java.math.BigInteger;
import java.util.Arrays;

/**
 * What the calls answer at their edges: where there is none, of several the first, the last hour
 * that is looked at and the first that is not, at most and at least, and the wrap-around of the
 * checksum. The number ahead of a check is the promise's.
 */
public final class AnswerEdgesTest {
    public static void main(String[] args) {
        numbersOfArches();
        tablesOfEachHour();
        millsCounted();
        millNone();
        millClosedSince();
        millBuiltLate();
        mendAtLeast();
        mendDrops();
        quakeAtMost();
        passOnlyInThem();
        foreseeOnlyInThem();
        foreseeTheLastHour();
        foreseeOverTheDay();
        adviseNone();
        adviseNotWorse();
        adviseSmallestNumber();
        adviseLeastThirst();
        adviseByWhatIsLost();
        adviseTheLastHour();
        thirstyNow();
        thirstyNotYet();
        thirstyTheLastHour();
        worstNone();
        worstSmallestNumber();
        worstFirstArch();
        worstTheLastArch();
        reachesNothing();
        reachesAll();
        digestWraps();
        digestOfTwenty();
        theLastCall();
        Check.end();
    }

    // 2
    private static void numbersOfArches() {
        ArchWater x = new ArchWater();
        for (int i = 0; i < 20; i++) {
            Check.due("2: arches before", x.count(1), i);
            Check.due("2: its number", x.build(200 - 10 * i, 1 + 2 * i), i);
        }
        Check.due("2: arches in all", x.count(1), 20);
        for (int i = 0; i < 19; i++) {
            Seen.archNumbers("6: of 20", x, i, 200 - 10 * i, 1 + 2 * i, 0, 0, 0, 10, 12, 0, 0);
        }
        Seen.archNumbers("6: the last of 20", x, 19, 10, 39, 0, 0, 0, 10, 12, 0, 0);
    }

    // 3 and 4
    private static void tablesOfEachHour() {
        ArchWater x = new ArchWater();
        for (int hour = 0; hour < 24; hour++) {
            Check.due("3: nothing before", x.setSpring(hour, hour + 1), 0);
            Check.due("4: nothing before", x.setCity(hour, 40 - hour), 0);
        }
        for (int hour = 0; hour < 24; hour++) {
            int given = x.count(6);
            Check.due("4: the hour " + hour, x.pass(1), 40 - hour);
            Check.due("3: the hour " + hour, x.count(6) - given, hour + 1);
        }
        for (int hour = 0; hour < 24; hour++) {
            Check.due("3: before", x.setSpring(hour, 0), hour + 1);
            Check.due("4: before", x.setCity(hour, 0), 40 - hour);
        }
    }

    // 7
    private static void millsCounted() {
        ArchWater x = new ArchWater();
        for (int i = 0; i < 20; i++) {
            x.build(100, 10);
        }
        for (int i = 19; i >= 0; i--) {
            Check.due("6: no mill yet", x.arch(i, 8), 0);
            Check.due("7: mills", x.addMill(i, i + 1), 20 - i);
            Check.due("6: a mill", x.arch(i, 8), 1);
            Check.due("13: mills", x.count(2), 20 - i);
        }
        for (int i = 0; i < 20; i++) {
            Seen.millNumbers("9: with a closed sluice", x, i, i + 1, 0, 0, 0);
        }
    }

    // 9
    private static void millNone() {
        ArchWater x = new ArchWater();
        x.build(200, 40);
        x.build(100, 40);
        x.addMill(1, 30);
        Seen.springAlways(x, 40);
        Seen.millNumbers("9: no mill, a new arch", x, 0, -1, -1, -1, -1);
        x.pass(10);
        Seen.millNumbers("9: no mill, water went on", x, 0, -1, -1, -1, -1);
    }

    // 9
    private static void millClosedSince() {
        ArchWater x = new ArchWater();
        x.build(200, 40);
        x.addMill(0, 30);
        x.setSluice(0, 10);
        x.setSpring(0, 7);
        x.setSpring(2, 7);
        x.pass(2);
        Check.due("9: took", x.mill(0, 3), 7);
        Check.due("8: it was open", x.setSluice(0, 0), 10);
        Seen.millNumbers("9: closed since", x, 0, 30, 0, 7, 7);
        x.pass(1);
        Seen.millNumbers("9: an hour without water", x, 0, 30, 0, 7, 0);
        x.pass(1);
        Seen.millNumbers("9: an hour with a closed sluice", x, 0, 30, 0, 7, 0);
        x.setSluice(0, 10);
        Seen.millNumbers("9: opened since", x, 0, 30, 10, 7, 0);
    }

    // 9
    private static void millBuiltLate() {
        ArchWater x = new ArchWater();
        x.build(200, 40);
        Seen.springAlways(x, 20);
        x.pass(5);
        x.addMill(0, 30);
        Seen.millNumbers("9: built behind hours", x, 0, 30, 0, 0, 0);
        x.setSluice(0, 10);
        Seen.millNumbers("9: opened behind hours", x, 0, 30, 10, 0, 0);
        x.pass(1);
        Seen.millNumbers("9: its first hour", x, 0, 30, 10, 20, 20);
    }

    // 10
    private static void mendAtLeast() {
        mends(1, 0);
        mends(9, 0);
        mends(10, 0);
        mends(11, 1);
        mends(20, 10);
        mends(50, 40);
    }

    private static void mends(int wear, int left) {
        ArchWater x = withCoins();
        x.quake(1, wear);
        int coins = x.count(3);
        Check.due("10: wear of " + wear, x.mend(1), left);
        Check.due("10: its wear is so then", x.arch(1, 3), left);
        Check.due("10: a coin less", x.count(3), coins - 1);
        Check.due("10: the other arch is as it was", x.arch(0, 3), 0);
    }

    /** Two arches without water, not worn; 3 coins; the hour 2. */
    private static ArchWater withCoins() {
        ArchWater x = new ArchWater();
        x.build(200, 40);
        x.build(100, 40);
        x.addMill(0, 30);
        x.setSluice(0, 10);
        x.setSpring(0, 30);
        x.pass(2);
        return x;
    }

    // 10
    private static void mendDrops() {
        ArchWater x = withCoins();
        x.setSpring(2, 9);
        x.setSluice(0, 0);
        x.quake(0, 10);
        x.quake(1, 10);
        x.pass(2);
        Seen.drops("10: before", x, 9, 9);
        Check.due("10: mend(0)", x.mend(0), 0);
        Seen.drops("10: none at the arch 0 then", x, 0, 9);
        x.quake(1, 5);
        Check.due("10: mend(1), still worn", x.mend(1), 5);
        Seen.drops("10: none at both then", x, 0, 0);
        x.quake(0, 3);
        Check.due("10: mend(0) without drops", x.mend(0), 0);
        Seen.drops("10: none as before", x, 0, 0);
        Seen.leaked("10: nothing leaked", x, 0, 0);
    }

    // 11
    private static void quakeAtMost() {
        quakes(1, 48, 49);
        quakes(1, 49, 50);
        quakes(1, 50, 50);
        quakes(49, 1, 50);
        quakes(50, 1, 50);
        quakes(50, 50, 50);
        quakes(25, 25, 50);
        quakes(25, 26, 50);
    }

    private static void quakes(int first, int then, int want) {
        ArchWater x = new ArchWater();
        x.build(100, 10);
        x.build(100, 10);
        Check.due("11: the first", x.quake(1, first), first);
        Check.due("11: " + first + " and " + then, x.quake(1, then), want);
        Check.due("11: its wear then", x.arch(1, 3), want);
        Check.due("11: the other arch is as it was", x.arch(0, 3), 0);
        Check.due("11: no hour passes", x.count(0), 0);
    }

    // 12
    private static void passOnlyInThem() {
        ArchWater x = new ArchWater();
        x.setCity(0, 5);
        x.setCity(1, 3);
        Check.due("12: the first hour", x.pass(1), 5);
        Check.due("12: the second alone", x.pass(1), 3);
        Check.due("12: none in 22", x.pass(22), 0);
        Check.due("12: two days", x.pass(48), 16);
        Check.due("12: four days and four hours", x.pass(100), 40);
        Check.due("13: in all", x.count(11), 64);
        Check.due("13: hours", x.count(0), 172);
    }

    // 14
    private static void foreseeOnlyInThem() {
        ArchWater x = new ArchWater();
        x.setCistern(0);
        x.build(200, 40);
        x.build(0, 40);
        x.addMill(0, 4);
        x.setSluice(0, 5);
        x.setSpring(0, 40);
        x.setCity(0, 2);
        x.setCity(4, 1);
        x.quake(0, 10);
        x.pass(3);
        Check.due("14: thirst before", x.count(11), 2);
        Check.due("14: leaked before", x.count(8), 4);
        Check.due("14: flour before", x.mill(0, 2), 4 + 3);
        // In the hour 3: 5 tenths of nothing; the arch 0 is empty, and the other one is not worn.
        foreseen("14: the hour 3", x, 1, 0, 0, 0, 0);
        foreseen("14: the hours 3 and 4", x, 2, 1, 0, 0, 0);
        x.setSpring(3, 10);
        // 10 come in the hour 3; with the 6 drops that are left 16 drops are 1 of water.
        foreseen("14: water comes in the hour 3", x, 1, 0, 1, 0, 0);
        foreseen("14: and is ground in the hour 4", x, 2, 1, 1, 0, 4);
        x.setCistern(3);
        // 2 come from the arch 1 in each hour, so that the city has 1 in the hour 4.
        foreseen("14: the cistern holds 3", x, 1, 0, 1, 2, 0);
        foreseen("14: the cistern holds no more than 3", x, 2, 0, 1, 3, 4);
    }

    private static void foreseen(String what, ArchWater x, int hours, int... want) {
        String before = Check.picture(x);
        for (int i = 0; i < 4; i++) {
            Check.due(what + ": foresee(" + hours + ", " + i + ")", x.foresee(hours, i), want[i]);
        }
        Check.dueText(what + ": what is seen behind foresee", Check.picture(x), before);
    }

    // 14
    private static void foreseeTheLastHour() {
        ArchWater x = new ArchWater();
        x.setCity(3, 7);
        // The hours 3, 27, 51, 75 and 99: the last one is the 100th.
        Check.due("14: 99 hours", x.foresee(99, 0), 28);
        Check.due("14: 100 hours", x.foresee(100, 0), 35);
        Check.due("14: the first 3 hours", x.foresee(3, 0), 0);
        Check.due("14: the first 4 hours", x.foresee(4, 0), 7);
        x.setCity(3, 0);
        x.setCity(4, 7);
        Check.due("14: the 101st hour is none of 100", x.foresee(100, 0), 28);
        Check.due("14: no hour passed", x.count(0), 0);
    }

    // 14
    private static void foreseeOverTheDay() {
        ArchWater x = new ArchWater();
        x.setCistern(0);
        x.build(0, 40);
        x.setSpring(0, 40);
        x.pass(23);
        x.setCity(23, 2);
        x.setCity(0, 3);
        foreseen("14: the hour 23", x, 1, 2, 0, 0, 0);
        // In the hour 23 the arch is worn by 1, so that 4 drops come in each hour from then on.
        foreseen("14: the hour 25", x, 3, 5, 0, 0, 0);
        foreseen("14: the hour 26", x, 4, 5, 1, 0, 0);
        Seen.wears("14: it is not worn yet", x, 0);
    }

    // 15
    private static void adviseNone() {
        Check.due("15: no arches", new ArchWater().advise(48), -1);
        ArchWater x = new ArchWater();
        x.build(200, 40);
        x.setCity(0, 5);
        Check.due("15: thirst, but no mill", x.advise(48), -1);
        x.addMill(0, 5);
        Check.due("15: thirst, but the sluice is closed", x.advise(48), -1);
        x.setSluice(0, 10);
        Check.due("15: thirst, but no water for the mill", x.advise(48), -1);
        x.setSpring(3, 5);
        Check.due("15: thirst that the mill is too late for", x.advise(24), -1);
        Check.due("15: thirst that the mill makes", x.advise(25), 0);
        x.setCity(0, 0);
        Check.due("15: no thirst", x.advise(48), -1);
        Check.due("15: the sluice is as it was", x.mill(0, 1), 10);
    }

    // 15: by the mill water comes to the city sooner, so closing it makes more thirst
    private static void adviseNotWorse() {
        ArchWater x = new ArchWater();
        x.build(200, 40);
        x.build(100, 40);
        x.addMill(0, 10);
        x.setSluice(0, 10);
        x.setSpring(0, 10);
        x.setCity(2, 6);
        Check.due("15: thirst with the mill", x.foresee(3, 0), 1);
        Check.due("15: closing is worse", x.advise(3), -1);
        x.setSluice(0, 0);
        Check.due("15: thirst without the mill", x.foresee(3, 0), 6);
        Check.due("15: nothing to close", x.advise(3), -1);
    }

    // 15: each of the mills that are open takes 1, and nothing of it comes back
    private static void adviseSmallestNumber() {
        Check.due("15: of 0, 1 and 2", threeMills(10, 10, 10).advise(5), 0);
        Check.due("15: of 1 and 2", threeMills(0, 10, 10).advise(5), 1);
        Check.due("15: of 0 and 2", threeMills(10, 0, 10).advise(5), 0);
        Check.due("15: 2 alone", threeMills(0, 0, 10).advise(5), 2);
        Check.due("15: none", threeMills(0, 0, 0).advise(5), -1);
    }

    private static ArchWater threeMills(int... tenths) {
        ArchWater x = new ArchWater();
        for (int i = 0; i < 3; i++) {
            x.build(200 - 50 * i, 40);
            x.addMill(i, 1);
            x.setSluice(i, tenths[i]);
        }
        x.setSpring(0, 9);
        x.setCity(4, 10);
        return x;
    }

    // 15: the first two mills use up 1 each, the other two 3 each; all the rest comes in time
    private static void adviseLeastThirst() {
        ArchWater x = new ArchWater();
        int[] appetites = {1, 1, 6, 6};
        for (int i = 0; i < 4; i++) {
            x.build(200 - 50 * i, 40);
            x.addMill(i, appetites[i]);
            x.setSluice(i, 10);
        }
        x.setSpring(0, 30);
        x.setCity(8, 30);
        Check.due("15: thirst as it is", x.foresee(9, 0), 1 + 1 + 3 + 3);
        adviseAndClose(x, 2);
        adviseAndClose(x, 3);
        adviseAndClose(x, 0);
        adviseAndClose(x, 1);
        Check.due("15: then there is no thirst", x.foresee(9, 0), 0);
        Check.due("15: then none", x.advise(9), -1);
    }

    private static void adviseAndClose(ArchWater x, int best) {
        Check.due("15: the best of those that are open", x.advise(9), best);
        Check.due("15: it was not closed by that", x.setSluice(best, 0), 10);
    }

    // 15: the mill at 0 uses up 1 of 10; the mill at 1 uses up 2 of the 9 that are left
    private static void adviseByWhatIsLost() {
        ArchWater x = new ArchWater();
        x.build(200, 40);
        x.build(100, 40);
        x.addMill(0, 1);
        x.addMill(1, 3);
        x.setSluice(0, 1);
        x.setSluice(1, 10);
        x.setSpring(0, 10);
        x.setCity(4, 10);
        Check.due("15: thirst with both", x.foresee(5, 0), 3);
        Check.due("15: the greater loss", x.advise(5), 1);
        x.setSluice(1, 0);
        Check.due("15: thirst with the first", x.foresee(5, 0), 1);
        x.setSluice(1, 10);
        x.setSluice(0, 0);
        Check.due("15: thirst with the second", x.foresee(5, 0), 2);
    }

    // 15
    private static void adviseTheLastHour() {
        ArchWater x = twoForTheMill(0);
        x.setCity(1, 1);
        Check.due("15: thirst first in the 48th hour", x.thirsty(), 48);
        Check.due("15: 47 hours", x.advise(47), -1);
        Check.due("15: 48 hours", x.advise(48), 0);
        ArchWater y = twoForTheMill(1);
        y.setCity(2, 1);
        Check.due("15: thirst first in the 49th hour", y.thirsty(), 49);
        Check.due("15: all 48 hours are before it", y.advise(48), -1);
        Check.due("15: no hour passed", y.count(0), 2);
    }

    /** At the hour 2; of 2 on the arch the mill is to take 1; the cistern has so much already. */
    private static ArchWater twoForTheMill(int inCistern) {
        ArchWater x = new ArchWater();
        x.setCistern(inCistern);
        x.build(200, 40);
        x.addMill(0, 1);
        x.setSpring(0, 2 + inCistern);
        x.pass(2);
        x.setSpring(0, 0);
        x.setCistern(100);
        x.setSluice(0, 10);
        Seen.counts("15: made", x, 2, 1, 1, 0, inCistern, 2);
        return x;
    }

    // 16
    private static void thirstyNow() {
        ArchWater x = new ArchWater();
        x.setCity(0, 1);
        Check.due("16: in the hour that is now", x.thirsty(), 1);
        x.pass(1);
        Check.due("16: thirst that was does not count", x.thirsty(), 24);
        x.setCity(0, 0);
        Check.due("16: none any more", x.thirsty(), -1);
        x.setCity(2, 1);
        Check.due("16: in the next hour", x.thirsty(), 2);
        Check.due("16: no hour passed", x.count(0), 1);
    }

    // 16
    private static void thirstyNotYet() {
        ArchWater x = withInCistern(10);
        x.setCity(2, 10);
        Check.due("16: all is drunk first, and thirst is a day later", x.thirsty(), 25);
        x.setCity(3, 1);
        Check.due("16: nothing is left in the second hour", x.thirsty(), 2);
        x.setCity(2, 9);
        Check.due("16: 1 is left in the second hour", x.thirsty(), 25);
        x.setCity(2, 11);
        Check.due("16: 1 more than there is", x.thirsty(), 1);
    }

    // 16: of 8 in the cistern 1 is drunk each day, so that it is empty on the ninth day
    private static void thirstyTheLastHour() {
        thirsty(0, 192 + 23, -1);
        thirsty(8, 192 + 7, 199);
        thirsty(9, 192 + 8, 200);
        thirsty(10, 192 + 9, -1);
    }

    private static void thirsty(int hourOfDay, int hours, int want) {
        ArchWater x = withInCistern(8);
        x.setCity(hourOfDay, 1);
        String before = Check.picture(x);
        Check.due("16: thirst behind " + hours + " hours", x.thirsty(), want);
        Check.dueText("16: what is seen behind it", Check.picture(x), before);
        Check.due("16: none before", x.pass(100) + x.pass(hours - 1 - 100 - 20) + x.pass(20), 0);
        Check.due("16: then there is thirst", x.pass(1), 1);
    }

    /** At the hour 2; the arch is empty, and no more water comes. */
    private static ArchWater withInCistern(int water) {
        ArchWater x = new ArchWater();
        x.build(200, 40);
        x.setSpring(0, water);
        x.pass(2);
        x.setSpring(0, 0);
        return x;
    }

    // 17
    private static void worstNone() {
        ArchWater x = new ArchWater();
        Check.due("17: no arches", x.worst(), -1);
        x.setCistern(0);
        x.build(0, 40);
        x.setSpring(0, 9);
        Check.due("17: no water", x.worst(), -1);
        x.quake(0, 10);
        x.pass(1);
        Seen.drops("17: drops alone", x, 9);
        Check.due("17: drops alone are no water", x.worst(), -1);
        x.pass(1);
        Seen.leaked("17: 1 leaked", x, 1);
        Check.due("17: 1 leaked", x.worst(), 0);
    }

    // 17
    private static void worstSmallestNumber() {
        ArchWater x = new ArchWater();
        x.setCistern(0);
        x.build(200, 40);
        x.build(150, 40);
        x.build(100, 40);
        x.setSpring(0, 30);
        x.pass(1);
        x.quake(1, 10);
        x.pass(1);
        Seen.leaked("17: 30 drops of 30", x, 0, 3, 0);
        Check.due("17: the arch 1 alone", x.worst(), 1);
        x.quake(2, 12);
        x.pass(1);
        Seen.leaked("17: 32 drops of 27", x, 0, 3, 3);
        Check.due("17: of 1 and 2 the first", x.worst(), 1);
        x.pass(1);
        Seen.leaked("17: 28 drops of 24, 2 before", x, 0, 3, 6);
        Check.due("17: the arch 2 leaked more", x.worst(), 2);
    }

    // 17: the arches 1 and 2 have leaked 3 and 8 when the first one leaks at once
    private static void worstFirstArch() {
        worstWithFirst(19, 7, 2);
        worstWithFirst(20, 8, 0);
        worstWithFirst(23, 9, 0);
    }

    private static void worstWithFirst(int wear, int leaked, int want) {
        ArchWater x = new ArchWater();
        x.setCistern(0);
        x.build(200, 40);
        x.build(150, 40);
        x.build(100, 40);
        x.setSpring(0, 30);
        x.pass(1);
        x.quake(1, 10);
        x.quake(2, 12);
        x.pass(3);
        Seen.leaked("17: before", x, 0, 3, 6);
        x.quake(0, wear);
        x.setSpring(4, 40);
        x.pass(1);
        Seen.leaked("17: 40 of water, worn by " + wear, x, leaked, 3, 8);
        Check.due("17: of 0 with " + leaked + " and 2 with 8", x.worst(), want);
    }

    // 17
    private static void worstTheLastArch() {
        ArchWater x = new ArchWater();
        for (int i = 0; i < 20; i++) {
            x.build(200 - 10 * i, 40);
        }
        x.setSpring(0, 10);
        x.quake(19, 10);
        x.pass(19);
        Check.due("17: before the water comes", x.worst(), -1);
        x.pass(1);
        Check.due("17: the last of 20", x.worst(), 19);
    }

    // 18
    private static void reachesNothing() {
        ArchWater x = new ArchWater();
        Check.dueReal("18: nothing given", x.reaches(), 0.0);
        x.setCity(0, 5);
        x.pass(1);
        Check.dueReal("18: nothing given, but thirst", x.reaches(), 0.0);
        x.setSpring(1, 1);
        x.pass(1);
        Check.dueReal("18: given, and spilt", x.reaches(), 0.0);
    }

    // 18
    private static void reachesAll() {
        ArchWater x = new ArchWater();
        x.build(200, 40);
        x.setSpring(0, 7);
        x.setCity(2, 1);
        x.setCity(3, 2);
        x.setCity(4, 40);
        x.pass(2);
        Check.dueReal("18: nothing drunk yet", x.reaches(), 0.0);
        x.pass(1);
        Check.dueReal("18: 1 of 7", x.reaches(), 1.0 / 7.0);
        x.pass(1);
        Check.dueReal("18: 3 of 7", x.reaches(), 3.0 / 7.0);
        x.pass(1);
        Check.dueReal("18: all", x.reaches(), 1.0);
        x.pass(20);
        Check.dueReal("18: 7 of 14", x.reaches(), 0.5);
    }

    // 19
    private static void digestWraps() {
        ArchWater x = new ArchWater();
        BigInteger d = unwrapped(x, new int[24], new int[24]);
        Check.due("19: it does not fit in 64 bits", d.bitLength() > 64 ? 1 : 0, 1);
        Check.due("19: a new object", x.digest(), d.longValue());
        int[] spring = new int[24];
        int[] city = new int[24];
        x.build(200, 40);
        x.build(190, 40);
        x.build(0, 40);
        x.addMill(1, 30);
        x.setSluice(1, 10);
        x.quake(2, 50);
        boolean below = false;
        boolean above = false;
        for (int hour = 0; hour < 24; hour++) {
            spring[hour] = 40 - hour;
            city[hour] = hour;
            x.setSpring(hour, spring[hour]);
            x.setCity(hour, city[hour]);
            x.pass(1);
            d = unwrapped(x, spring, city);
            below |= d.longValue() < 0;
            above |= d.longValue() > 0;
            Check.due("19: at the hour " + (hour + 1), x.digest(), d.longValue());
        }
        Check.due("19: on both sides of 0", below && above ? 1 : 0, 1);
    }

    // 19
    private static void digestOfTwenty() {
        ArchWater x = new ArchWater();
        for (int i = 0; i < 20; i++) {
            x.build(200 - 10 * i, 40);
            if (i % 2 == 0) {
                x.addMill(i, 1 + i);
                x.setSluice(i, i / 2);
            }
            x.quake(i, 1 + 2 * i);
        }
        Seen.springAlways(x, 30);
        x.pass(100);
        int[] spring = new int[24];
        Arrays.fill(spring, 30);
        Check.due("19: 20 arches", x.digest(), unwrapped(x, spring, new int[24]).longValue());
    }

    /** The checksum as it would be without an end to a number; its lowest 64 bits are the digest. */
    private static BigInteger unwrapped(ArchWater x, int[] spring, int[] city) {
        BigInteger d = BigInteger.valueOf(601);
        for (int what = 0; what < 12; what++) {
            d = next(d, x.count(what));
        }
        for (int hour = 0; hour < 24; hour++) {
            d = next(d, spring[hour]);
            d = next(d, city[hour]);
        }
        for (int i = 0; i < x.count(1); i++) {
            for (int what = 0; what < 9; what++) {
                d = next(d, x.arch(i, what));
            }
            for (int what = 0; what < 4; what++) {
                d = next(d, x.mill(i, what));
            }
        }
        return d;
    }

    private static BigInteger next(BigInteger d, int number) {
        return d.multiply(BigInteger.valueOf(31)).add(BigInteger.valueOf(number));
    }

    // An object is used for at most 512 calls.
    private static void theLastCall() {
        ArchWater x = new ArchWater();
        x.build(200, 40);
        x.setSpring(0, 40);
        x.setCity(0, 40);
        for (int call = 4; call <= 511; call++) {
            x.pass(100);
        }
        Check.due("the 512th call", x.count(0), 508 * 100);
    }
}
