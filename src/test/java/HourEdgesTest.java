/**
 * The edges of an arch, the cistern and an hour that the document's "Terms" name, each from both
 * sides. The number of the step of an hour stands ahead of a check.
 */
public final class HourEdgesTest {
    public static void main(String[] args) {
        allIsEmptyAtFirst();
        slopes();
        cisternHolds();
        cityDrinks();
        cityDrinksFirst();
        thirstAddsUp();
        rates();
        rateBetweenArches();
        roomOfTheNextArch();
        roomOfTheCistern();
        lastArchFirst();
        millAppetite();
        millTenths();
        millAndRate();
        millWithoutRoomBehind();
        halfIsCut();
        halfIsTwoFurtherOn();
        halfAndRoomOfTheArch();
        halfAndRoomOfTheCistern();
        halfComesLast();
        halvesOfTwoMills();
        coinsOfAnHour();
        coinsOfHours();
        coinsOfEachMill();
        springAndRoom();
        springComesLate();
        springWithoutArches();
        dropsAreCut();
        dropsMakeWater();
        dropsAddUp();
        dropsWithoutWater();
        leaksOfEachArch();
        wearOfTheHour();
        wearNeedsWater();
        wearOfMills();
        wearAtMost();
        wearIsBehindTheOthers();
        hourAndDay();
        Check.end();
    }

    private static void allIsEmptyAtFirst() {
        ArchWater x = new ArchWater();
        for (int hour = 0; hour < 24; hour++) {
            Check.due("at first, the spring", x.setSpring(hour, 0), 0);
            Check.due("at first, the city", x.setCity(hour, 0), 0);
        }
        x.build(200, 40);
        Seen.archNumbers("at first, an arch", x, 0, 200, 40, 0, 0, 0, 200, 30, 0, 0);
        x.addMill(0, 30);
        Seen.millNumbers("at first, a mill", x, 0, 30, 0, 0, 0);
        Seen.counts("at first", x, 0, 1, 1, 0, 0, 0, 0, 0, 0, 0, 0, 0);
    }

    private static void slopes() {
        ArchWater x = new ArchWater();
        x.build(0, 1);
        Seen.archNumbers("the city lies as high", x, 0, 0, 1, 0, 0, 0, 0, 2, 0, 0);
        ArchWater y = new ArchWater();
        y.build(200, 1);
        Seen.archNumbers("the city lies far below", y, 0, 200, 1, 0, 0, 0, 200, 30, 0, 0);
        y.build(200, 1);
        Seen.archNumbers("the next one is as high", y, 0, 200, 1, 0, 0, 0, 0, 2, 0, 0);
        y.build(0, 1);
        Seen.archNumbers("the next one is as low as the city", y, 1, 200, 1, 0, 0, 0, 200, 30, 0, 0);
        slope(1, 3);
        slope(27, 29);
        slope(28, 30);
        slope(29, 30);
    }

    private static void slope(int slope, int rate) {
        ArchWater x = new ArchWater();
        x.build(100, 5);
        x.build(100 - slope, 5);
        Check.due("a slope", x.arch(0, 5), slope);
        Check.due("the rate of the slope " + slope, x.arch(0, 6), rate);
    }

    private static void cisternHolds() {
        ArchWater x = new ArchWater();
        x.build(200, 40);
        Seen.springAlways(x, 25);
        x.pass(5);
        Seen.counts("100 at first fit", x, 5, 1, 0, 0, 100, 25, 125, 0);
        x.pass(1);
        Seen.counts("the next does not", x, 6, 1, 0, 0, 100, 40, 150, 10);
        x.setCistern(500);
        x.pass(50);
        Check.due("it holds 500", x.count(4), 500);
        cisternHoldsLess(31, 0, 30);
        cisternHoldsLess(30, 0, 30);
        cisternHoldsLess(29, 1, 29);
        cisternHoldsLess(0, 30, 0);
    }

    private static void cisternHoldsLess(int holds, int spilt, int left) {
        ArchWater x = withInCistern(30);
        Check.due("spilt of 30 by setCistern(" + holds + ")", x.setCistern(holds), spilt);
        Check.due("left of 30 by setCistern(" + holds + ")", x.count(4), left);
        Check.due("told as spilt by setCistern(" + holds + ")", x.count(7), spilt);
    }

    /** At the hour 2; the arch is empty, and no more water comes. */
    private static ArchWater withInCistern(int water) {
        ArchWater x = new ArchWater();
        x.build(200, 40);
        x.setSpring(0, water);
        x.pass(2);
        x.setSpring(0, 0);
        Check.due("made with water in the cistern", x.count(4), water);
        return x;
    }

    private static void cityDrinks() {
        drinks(10, 0, 0, 0);
        drinks(10, 9, 9, 0);
        drinks(10, 10, 10, 0);
        drinks(10, 11, 10, 1);
        drinks(30, 40, 30, 10);
        drinks(1, 1, 1, 0);
        drinks(0, 1, 0, 1);
        drinks(0, 40, 0, 40);
    }

    private static void drinks(int water, int wanted, int drunk, int thirst) {
        String what = "1: " + wanted + " wanted of " + water;
        ArchWater x = withInCistern(water);
        x.setCity(2, wanted);
        Check.due(what + ", thirst", x.pass(1), thirst);
        Seen.counts(what, x, 3, 1, 0, 0, water - drunk, 0, water, 0, 0, 0, drunk, thirst);
    }

    private static void cityDrinksFirst() {
        ArchWater x = new ArchWater();
        x.build(200, 40);
        x.setSpring(0, 5);
        x.setCity(1, 5);
        x.setCity(2, 5);
        Check.due("1: what comes in this hour is too late", x.pass(2), 5);
        Check.due("1: an hour later it is there", x.pass(1), 0);
        Check.due("1: drunk then", x.count(10), 5);

        ArchWater y = new ArchWater();
        y.build(200, 40);
        y.setCistern(5);
        y.setSpring(0, 10);
        y.setCity(2, 3);
        y.pass(2);
        Seen.counts("1: the cistern is full", y, 2, 1, 0, 0, 5, 5);
        y.pass(1);
        Seen.counts("1: what is drunk leaves room in this hour", y, 3, 1, 0, 0, 5, 2);
    }

    private static void thirstAddsUp() {
        ArchWater x = withInCistern(10);
        x.setCity(2, 13);
        x.setCity(3, 4);
        x.setCity(5, 2);
        Check.due("1: thirst of the first hour alone", x.pass(1), 3);
        Check.due("1: thirst of the next three hours", x.pass(3), 6);
        Check.due("1: thirst in all", x.count(11), 9);
        Check.due("1: an hour without thirst", x.pass(1), 0);
        Check.due("1: thirst in all stays", x.count(11), 9);
    }

    private static void rates() {
        sends(0, 1, 1);
        sends(0, 2, 2);
        sends(0, 3, 2);
        sends(10, 11, 11);
        sends(10, 12, 12);
        sends(10, 13, 12);
        sends(27, 29, 29);
        sends(27, 30, 29);
        sends(28, 30, 30);
        sends(28, 31, 30);
        sends(29, 31, 30);
        sends(200, 30, 30);
        sends(200, 31, 30);
        sends(200, 40, 30);
    }

    private static void sends(int slope, int water, int sent) {
        String what = "2: " + water + " on a slope of " + slope;
        ArchWater x = new ArchWater();
        x.build(slope, 40);
        x.setSpring(0, water);
        x.pass(2);
        Check.due(what + ", sent", x.count(4), sent);
        Check.due(what + ", stays", x.arch(0, 2), water - sent);
    }

    private static void rateBetweenArches() {
        sendsToNext(0, 2);
        sendsToNext(1, 3);
        sendsToNext(27, 29);
        sendsToNext(28, 30);
        sendsToNext(29, 30);
        sendsToNext(100, 30);
    }

    private static void sendsToNext(int slope, int sent) {
        ArchWater x = new ArchWater();
        x.setCistern(0);
        x.build(100, 40);
        x.build(100 - slope, 40);
        x.setSpring(0, 40);
        x.pass(2);
        Seen.waters("2: 40 on a slope of " + slope + " between arches", x, 40 - sent, sent);
    }

    private static void roomOfTheNextArch() {
        nextHolds(11, 10);
        nextHolds(10, 10);
        nextHolds(9, 9);
        nextHolds(1, 1);
    }

    private static void nextHolds(int size, int taken) {
        String what = "2: 10 for an arch that holds " + size;
        ArchWater x = new ArchWater();
        x.setCistern(0);
        x.build(200, 40);
        x.build(100, size);
        x.setSpring(0, 10);
        x.pass(2);
        Seen.waters(what, x, 10 - taken, taken);
        Check.due(what + ", spilt", x.count(7), 0);
        x.setSpring(2, 5);
        x.pass(2);
        int more = Math.min(15 - taken, size - taken);
        Seen.waters(what + ", then 5 more", x, 15 - taken - more, taken + more);
        Check.due(what + ", then 5 more, spilt", x.count(7), 0);
    }

    private static void roomOfTheCistern() {
        cisternTakes(11, 10);
        cisternTakes(10, 10);
        cisternTakes(9, 9);
        cisternTakes(1, 1);
        cisternTakes(0, 0);
    }

    private static void cisternTakes(int holds, int taken) {
        String what = "2: 10 for a cistern that holds " + holds;
        ArchWater x = new ArchWater();
        x.setCistern(holds);
        x.build(200, 40);
        x.setSpring(0, 10);
        x.pass(2);
        Seen.counts(what, x, 2, 1, 0, 0, taken, 10 - taken, 10, 0);
        x.pass(1);
        int more = Math.min(10 - taken, holds - taken);
        Seen.counts(what + ", an hour later", x, 3, 1, 0, 0, taken + more, 10 - taken - more, 10, 0);
    }

    private static void lastArchFirst() {
        ArchWater x = new ArchWater();
        x.build(0, 2);
        x.build(0, 2);
        Seen.springAlways(x, 2);
        x.pass(2);
        Seen.waters("2: both are full", x, 2, 2);
        x.pass(1);
        // Were the first one first, it would find the other one full.
        Seen.waters("2: the last one makes room for the first", x, 2, 2);
        Seen.counts("2: the last one makes room for the first", x, 3, 2, 0, 0, 2, 4, 6, 0);

        ArchWater y = new ArchWater();
        y.build(200, 40);
        y.build(100, 40);
        y.build(50, 40);
        y.setSpring(0, 5);
        y.pass(1);
        Seen.waters("2: an arch in an hour, at the spring", y, 5, 0, 0);
        y.pass(1);
        Seen.waters("2: an arch in an hour, further on", y, 0, 5, 0);
        y.pass(1);
        Seen.waters("2: an arch in an hour, at the last one", y, 0, 0, 5);
        y.pass(1);
        Seen.counts("2: an arch in an hour, in the cistern", y, 4, 3, 0, 0, 5, 0);
    }

    private static void millAppetite() {
        takes(10, 5, 4, 4);
        takes(10, 5, 5, 5);
        takes(10, 5, 6, 5);
        takes(30, 10, 29, 29);
        takes(30, 10, 30, 30);
        takes(29, 10, 30, 29);
        takes(30, 10, 1, 1);
        takes(0, 10, 30, 0);
    }

    private static void millTenths() {
        takes(30, 0, 30, 0);
        takes(9, 1, 30, 0);
        takes(10, 1, 30, 1);
        takes(19, 1, 30, 1);
        takes(20, 1, 30, 2);
        takes(1, 9, 30, 0);
        takes(1, 10, 30, 1);
        takes(30, 9, 30, 27);
        takes(13, 3, 30, 3);
    }

    /** A mill at the only arch, which sends on all that comes. */
    private static void takes(int going, int tenths, int appetite, int took) {
        String what = "2: " + tenths + " tenths of " + going + " for an appetite of " + appetite;
        ArchWater x = new ArchWater();
        x.build(200, 40);
        x.addMill(0, appetite);
        x.setSluice(0, tenths);
        x.setSpring(0, going);
        x.pass(2);
        Seen.millNumbers(what, x, 0, appetite, tenths, took, took);
        int used = took - took / 2;
        Seen.counts(what, x, 2, 1, 1, took / 10, going - used, 0, going, 0, 0, used, 0, 0);
    }

    private static void millAndRate() {
        ArchWater x = new ArchWater();
        x.build(8, 40);
        x.addMill(0, 30);
        x.setSluice(0, 5);
        x.setSpring(0, 40);
        x.pass(2);
        Check.due("2: 5 tenths of the rate, not of the water", x.mill(0, 3), 5);
        Check.due("2: what is over the rate stays", x.arch(0, 2), 30);
        Check.due("2: the rest and the half of 5", x.count(4), 7);
    }

    private static void millWithoutRoomBehind() {
        ArchWater x = new ArchWater();
        x.setCistern(0);
        x.build(200, 40);
        x.addMill(0, 30);
        x.setSluice(0, 6);
        x.setSpring(0, 10);
        x.pass(2);
        Check.due("2: the mill takes though the cistern is full", x.mill(0, 3), 6);
        Check.due("2: the rest stays", x.arch(0, 2), 4);
        x.pass(1);
        Check.due("2: the mill takes of what stayed", x.mill(0, 3), 2);
        Check.due("2: the rest of it stays", x.arch(0, 2), 2);

        ArchWater y = new ArchWater();
        y.setCistern(0);
        y.build(200, 40);
        y.build(0, 1);
        y.addMill(0, 30);
        y.setSluice(0, 5);
        y.setSpring(0, 10);
        y.pass(2);
        Seen.waters("2: the mill takes though the next arch is full", y, 4, 1);
        Check.due("2: what it took then", y.mill(0, 3), 5);
    }

    private static void halfIsCut() {
        half(1, 0);
        half(2, 1);
        half(3, 1);
        half(4, 2);
        half(29, 14);
        half(30, 15);
    }

    private static void half(int took, int back) {
        String what = "3: the half of " + took;
        ArchWater x = new ArchWater();
        x.build(200, 40);
        x.addMill(0, 30);
        x.setSluice(0, 10);
        x.setSpring(0, took);
        x.pass(2);
        Seen.counts(what, x, 2, 1, 1, took / 10, back, 0, took, 0, 0, took - back, 0, 0);
    }

    private static void halfIsTwoFurtherOn() {
        comesBack(1, 0, -1);
        comesBack(2, 0, -1);
        comesBack(2, 1, -1);
        comesBack(3, 0, 2);
        comesBack(3, 1, -1);
        comesBack(3, 2, -1);
        comesBack(4, 1, 3);
        comesBack(4, 2, -1);
        comesBack(20, 0, 2);
        comesBack(20, 17, 19);
        comesBack(20, 18, -1);
        comesBack(20, 19, -1);
    }

    /** The mill takes 10, all that comes; to: the arch where 5 come back, or -1 for the cistern. */
    private static void comesBack(int arches, int mill, int to) {
        String what = "3: a mill at " + mill + " of " + arches + " arches";
        ArchWater x = new ArchWater();
        for (int i = 0; i < arches; i++) {
            x.build(200 - 10 * i, 40);
        }
        x.addMill(mill, 10);
        x.setSluice(mill, 10);
        x.setSpring(0, 10);
        x.pass(mill + 2);
        Check.due(what + ", took", x.mill(mill, 3), 10);
        for (int i = 0; i < arches; i++) {
            Check.due(what + ", water of the arch " + i, x.arch(i, 2), i == to ? 5 : 0);
        }
        Check.due(what + ", water in the cistern", x.count(4), to == -1 ? 5 : 0);
        Check.due(what + ", spilt", x.count(7), 0);
    }

    private static void halfAndRoomOfTheArch() {
        archHoldsOfHalf(6, 5);
        archHoldsOfHalf(5, 5);
        archHoldsOfHalf(4, 4);
        archHoldsOfHalf(1, 1);
    }

    private static void archHoldsOfHalf(int size, int back) {
        String what = "3: a half of 5 for an arch that holds " + size;
        ArchWater x = new ArchWater();
        x.build(200, 40);
        x.build(100, 40);
        x.build(50, size);
        x.addMill(0, 10);
        x.setSluice(0, 10);
        x.setSpring(0, 10);
        x.pass(2);
        Seen.waters(what, x, 0, 0, back);
        Seen.counts(what, x, 2, 3, 1, 1, 0, back, 10, 5 - back, 0, 5, 0, 0);
    }

    private static void halfAndRoomOfTheCistern() {
        cisternHoldsOfHalf(6, 5);
        cisternHoldsOfHalf(5, 5);
        cisternHoldsOfHalf(4, 4);
        cisternHoldsOfHalf(1, 1);
        cisternHoldsOfHalf(0, 0);
    }

    private static void cisternHoldsOfHalf(int holds, int back) {
        String what = "3: a half of 5 for a cistern that holds " + holds;
        ArchWater x = new ArchWater();
        x.setCistern(holds);
        x.build(200, 40);
        x.addMill(0, 10);
        x.setSluice(0, 10);
        x.setSpring(0, 10);
        x.pass(2);
        Seen.counts(what, x, 2, 1, 1, 1, back, 0, 10, 5 - back, 0, 5, 0, 0);
    }

    private static void halfComesLast() {
        ArchWater x = millAheadOfTwoArches(5, 10);
        x.setSpring(0, 10);
        x.setSpring(1, 10);
        x.pass(2);
        Seen.waters("3: the half fills the arch", x, 10, 0, 5);
        x.pass(1);
        // The arch has sent on its 5 when the next half comes.
        Seen.waters("3: the next half finds room", x, 0, 0, 5);
        Seen.counts("3: the next half finds room", x, 3, 3, 1, 2, 5, 5, 20, 0, 0, 10, 0, 0);

        ArchWater y = millAheadOfTwoArches(8, 5);
        y.setSpring(0, 20);
        y.setSpring(1, 20);
        y.pass(2);
        Seen.waters("3: half of 10 comes back, 10 go on", y, 20, 10, 5);
        y.pass(1);
        // What goes on fills the arch ahead of the half.
        Seen.waters("3: the next half finds no room", y, 0, 12, 8);
        Seen.counts("3: the next half finds no room", y, 3, 3, 1, 2, 5, 20, 40, 5, 0, 10, 0, 0);
    }

    private static ArchWater millAheadOfTwoArches(int sizeOfLast, int tenths) {
        ArchWater x = new ArchWater();
        x.build(200, 40);
        x.build(100, 40);
        x.build(50, sizeOfLast);
        x.addMill(0, 10);
        x.setSluice(0, tenths);
        return x;
    }

    private static void halvesOfTwoMills() {
        ArchWater x = new ArchWater();
        x.setCistern(12);
        x.build(200, 40);
        x.build(100, 40);
        x.addMill(0, 10);
        x.addMill(1, 10);
        x.setSluice(0, 5);
        x.setSluice(1, 10);
        x.setSpring(0, 20);
        x.setSpring(1, 20);
        x.pass(2);
        Seen.counts("3: the half of the first mill", x, 2, 2, 2, 1, 5, 30, 40, 0, 0, 5, 0, 0);
        x.pass(1);
        Seen.counts("3: the halves of both find room for 7", x, 3, 2, 2, 3, 12, 10, 40, 3, 0, 15, 0, 0);
    }

    private static void coinsOfAnHour() {
        coins(0, 9);
        coins(1, 10);
        coins(1, 11);
        coins(1, 19);
        coins(2, 20);
        coins(2, 29);
        coins(3, 30);
    }

    private static void coinsOfHours() {
        coins(1, 9, 1);
        coins(0, 8, 1);
        coins(1, 10, 0, 0);
        coins(1, 10, 9);
        coins(2, 10, 10);
        coins(2, 10, 9, 1);
        coins(1, 9, 9);
        coins(2, 9, 9, 2);
        coins(3, 19, 11);
        coins(2, 19, 10);
        coins(4, 11, 30);
    }

    private static void coins(int want, int... flourOfHours) {
        ArchWater x = new ArchWater();
        x.setCistern(500);
        x.build(200, 40);
        x.addMill(0, 30);
        x.setSluice(0, 10);
        int flour = 0;
        for (int hour = 0; hour < flourOfHours.length; hour++) {
            x.setSpring(hour, flourOfHours[hour]);
            flour += flourOfHours[hour];
        }
        x.pass(flourOfHours.length + 1);
        String what = "3: " + flour + " of flour in " + flourOfHours.length + " hours";
        Check.due(what, x.mill(0, 2), flour);
        Check.due(what + ", coins", x.count(3), want);
        x.pass(1);
        Check.due(what + ", coins an hour later", x.count(3), want);
    }

    private static void coinsOfEachMill() {
        ArchWater x = new ArchWater();
        x.build(200, 40);
        x.build(100, 40);
        x.addMill(0, 5);
        x.addMill(1, 5);
        x.setSluice(0, 10);
        x.setSluice(1, 10);
        x.setSpring(0, 10);
        x.setSpring(1, 10);
        x.pass(3);
        Check.due("3: 10 of the first mill", x.mill(0, 2), 10);
        Check.due("3: 5 of the second mill", x.mill(1, 2), 5);
        Check.due("3: a coin for the first alone", x.count(3), 1);
        x.pass(1);
        Check.due("3: 10 of the second mill", x.mill(1, 2), 10);
        Check.due("3: a coin for each", x.count(3), 2);
    }

    private static void springAndRoom() {
        springGives(40, 40, 40);
        springGives(39, 40, 39);
        springGives(39, 39, 39);
        springGives(1, 0, 0);
        springGives(1, 1, 1);
        springGives(1, 2, 1);
        springGives(1, 40, 1);
        springGivesTwice(4, 0);
        springGivesTwice(5, 1);
        springGivesTwice(40, 36);
    }

    private static void springGives(int size, int water, int kept) {
        ArchWater x = new ArchWater();
        x.build(0, size);
        x.build(0, 40);
        x.setSpring(0, water);
        x.pass(1);
        String what = "4: " + water + " for an arch that holds " + size;
        Seen.waters(what, x, kept, 0);
        Seen.counts(what, x, 1, 2, 0, 0, 0, kept, water, water - kept);
    }

    /** 6 are there already, of 10 that the arch holds. */
    private static void springGivesTwice(int more, int spilt) {
        ArchWater x = new ArchWater();
        x.setCistern(0);
        x.build(0, 10);
        x.setSpring(0, 6);
        x.setSpring(1, more);
        x.pass(2);
        Seen.counts("4: " + more + " to 6 of 10", x, 2, 1, 0, 0, 0, 10, 6 + more, spilt);
        x.setSpring(2, 1);
        x.pass(1);
        Seen.counts("4: 1 to 10 of 10", x, 3, 1, 0, 0, 0, 10, 7 + more, spilt + 1);
    }

    private static void springComesLate() {
        ArchWater x = new ArchWater();
        x.build(0, 2);
        Seen.springAlways(x, 2);
        x.pass(10);
        Seen.counts("4: the arch has sent on its 2 before", x, 10, 1, 0, 0, 18, 2, 20, 0);
    }

    private static void springWithoutArches() {
        ArchWater x = new ArchWater();
        x.setSpring(0, 40);
        x.pass(24);
        Seen.counts("4: all is spilt", x, 24, 0, 0, 0, 0, 0, 40, 40, 0, 0, 0, 0);
        x.build(0, 40);
        x.pass(1);
        Seen.counts("4: nothing more is spilt", x, 25, 1, 0, 0, 0, 40, 80, 40, 0, 0, 0, 0);
    }

    private static void dropsAreCut() {
        leaks(9, 1, 0, 0);
        leaks(10, 1, 0, 1);
        leaks(19, 1, 0, 1);
        leaks(20, 1, 0, 2);
        leaks(3, 3, 0, 0);
        leaks(1, 9, 0, 0);
        leaks(1, 10, 0, 1);
        leaks(1, 49, 0, 4);
        leaks(1, 50, 0, 5);
    }

    private static void dropsMakeWater() {
        leaks(9, 10, 0, 9);
        leaks(10, 10, 1, 0);
        leaks(11, 10, 1, 1);
        leaks(19, 10, 1, 9);
        leaks(20, 10, 2, 0);
        leaks(40, 49, 19, 6);
        leaks(40, 50, 20, 0);
        leaks(2, 50, 1, 0);
        leaks(40, 0, 0, 0);
        leaks(0, 50, 0, 0);
    }

    /** The water comes from the spring in this very hour: leaks are behind it. */
    private static void leaks(int water, int wear, int lost, int drops) {
        ArchWater x = still(water);
        if (wear > 0) {
            x.quake(0, wear);
        }
        x.pass(1);
        String what = "5: " + water + " of water, worn by " + wear;
        Seen.archNumbers(what, x, 0, 0, 40, water - lost, wear, drops, 0, 2, lost, 0);
        Check.due(what + ", leaked in all", x.count(8), lost);
    }

    /** One arch that nothing can leave but by leaks; the water comes in the first hour. */
    private static ArchWater still(int water) {
        ArchWater x = new ArchWater();
        x.setCistern(0);
        x.build(0, 40);
        x.setSpring(0, water);
        return x;
    }

    private static void dropsAddUp() {
        ArchWater x = still(9);
        x.quake(0, 10);
        x.pass(1);
        Seen.drops("5: 9 drops are none of water", x, 9);
        x.pass(1);
        // 9 drops and 9 more.
        Seen.archNumbers("5: 18 drops", x, 0, 0, 40, 8, 10, 8, 0, 2, 1, 0);

        ArchWater y = still(1);
        y.quake(0, 50);
        y.pass(1);
        Seen.archNumbers("5: 5 drops", y, 0, 0, 40, 1, 50, 5, 0, 2, 0, 0);
        y.pass(1);
        Seen.archNumbers("5: 10 drops are all the water", y, 0, 0, 40, 0, 50, 0, 0, 2, 1, 0);
        y.pass(1);
        Seen.archNumbers("5: nothing is left to leak", y, 0, 0, 40, 0, 50, 0, 0, 2, 1, 0);
    }

    /** So many drops as there can be (14) for so little water (1): it loses all, and never more. */
    private static void dropsWithoutWater() {
        ArchWater x = new ArchWater();
        x.setCistern(0);
        x.build(6, 40);
        x.setSpring(0, 9);
        x.quake(0, 10);
        x.pass(1);
        Seen.archNumbers("5: 9 drops", x, 0, 6, 40, 9, 10, 9, 6, 8, 0, 0);
        x.setCistern(8);
        x.quake(0, 40);
        x.pass(1);
        Seen.archNumbers("5: 14 drops, 1 of water", x, 0, 6, 40, 0, 50, 4, 6, 8, 1, 0);
        x.pass(1);
        Seen.archNumbers("5: drops stay without water", x, 0, 6, 40, 0, 50, 4, 6, 8, 1, 0);

        ArchWater y = new ArchWater();
        y.build(200, 40);
        y.setSpring(0, 9);
        y.quake(0, 10);
        y.pass(1);
        y.quake(0, 40);
        y.pass(5);
        Seen.archNumbers("5: 9 drops stay without water", y, 0, 200, 40, 0, 50, 9, 200, 30, 0, 0);
    }

    private static void leaksOfEachArch() {
        ArchWater x = new ArchWater();
        x.build(200, 40);
        x.build(190, 40);
        x.build(0, 40);
        x.setSpring(0, 12);
        x.quake(0, 10);
        x.quake(1, 9);
        x.quake(2, 50);
        x.pass(3);
        // 12 drops of 12; then 9 drops of 11; then 10 times 5 drops would need 10 of water, there are 11.
        Seen.leaked("5: of each arch", x, 1, 0, 5);
        Seen.drops("5: of each arch", x, 2, 9, 5);
        Check.due("5: of all", x.count(8), 6);
    }

    private static void wearOfTheHour() {
        ArchWater x = still(40);
        x.pass(23);
        Seen.wears("6: before the hour 23", x, 0);
        x.pass(1);
        Seen.wears("6: behind the hour 23", x, 1);
        x.pass(1);
        Seen.wears("6: behind the hour 24", x, 1);
        x.pass(22);
        Seen.wears("6: before the hour 47", x, 1);
        x.pass(1);
        Seen.wears("6: behind the hour 47", x, 2);
    }

    private static void wearNeedsWater() {
        worn("6: no water", 0, 0, -1, 0);
        worn("6: the least water", 1, 0, -1, 1);
        worn("6: the most water", 40, 0, -1, 1);
        worn("6: no water, worn before", 0, 7, -1, 7);
        worn("6: no water, a mill that is open", 0, 7, 10, 7);
    }

    private static void wearOfMills() {
        worn("6: a closed mill", 40, 0, 0, 1);
        worn("6: a mill that is open by a tenth", 40, 0, 1, 2);
        worn("6: a mill that is wide open", 40, 0, 10, 2);
        worn("6: an open mill, the least water", 1, 0, 10, 2);
    }

    private static void wearAtMost() {
        worn("6: 48 and 1", 40, 48, -1, 49);
        worn("6: 49 and 1", 40, 49, -1, 50);
        worn("6: 50 and 1", 40, 50, -1, 50);
        worn("6: 47 and 2", 40, 47, 5, 49);
        worn("6: 48 and 2", 40, 48, 5, 50);
        worn("6: 49 and 2", 40, 49, 5, 50);
        worn("6: 50 and 2", 40, 50, 5, 50);
    }

    /** The water comes in the hour 23 itself: wear is behind it. Tenths below 0: there is no mill. */
    private static void worn(String what, int water, int wear, int tenths, int want) {
        ArchWater x = new ArchWater();
        x.setCistern(0);
        x.build(0, 40);
        if (tenths >= 0) {
            x.addMill(0, 30);
            x.setSluice(0, tenths);
        }
        x.setSpring(23, water);
        x.pass(23);
        if (wear > 0) {
            x.quake(0, wear);
        }
        x.pass(1);
        Seen.wears(what, x, want);
    }

    private static void wearIsBehindTheOthers() {
        ArchWater x = new ArchWater();
        x.build(200, 40);
        x.build(100, 40);
        x.setSpring(22, 5);
        x.pass(24);
        Seen.waters("6: the water went on in the hour 23", x, 0, 5);
        Seen.wears("6: only where it came to", x, 0, 1);

        ArchWater y = new ArchWater();
        y.setCistern(0);
        y.build(0, 40);
        y.setSpring(22, 1);
        y.quake(0, 50);
        y.pass(23);
        y.setSpring(22, 0);
        Seen.archNumbers("6: 5 drops before the hour 23", y, 0, 0, 40, 1, 50, 5);
        y.pass(1);
        Seen.archNumbers("6: the last water leaks in the hour 23", y, 0, 0, 40, 0, 50, 0);

        ArchWater z = new ArchWater();
        z.build(0, 40);
        z.addMill(0, 1);
        z.setSpring(22, 40);
        z.pass(23);
        z.setSluice(0, 10);
        z.pass(1);
        Seen.wears("6: opened for the hour 23 alone", z, 2);
        z.setSluice(0, 0);
        z.pass(23);
        z.setSpring(22, 0);
        z.pass(1);
        Seen.wears("6: closed for the hour 47", z, 3);
    }

    private static void hourAndDay() {
        ArchWater x = new ArchWater();
        x.setCity(0, 1);
        x.setSpring(23, 3);
        hourPasses(x, 0, 1, 0);
        x.pass(22);
        hourPasses(x, 23, 0, 3);
        hourPasses(x, 24, 1, 0);
        x.pass(22);
        hourPasses(x, 47, 0, 3);
        hourPasses(x, 48, 1, 0);
        for (int i = 0; i < 23; i++) {
            x.pass(100);
        }
        x.pass(50);
        hourPasses(x, 2399, 0, 3);
        hourPasses(x, 2400, 1, 0);
        hourPasses(x, 2401, 0, 0);
    }

    private static void hourPasses(ArchWater x, int hour, int thirst, int given) {
        Check.due("7: the hour", x.count(0), hour);
        int before = x.count(6);
        Check.due("the city in the hour " + hour, x.pass(1), thirst);
        Check.due("the spring in the hour " + hour, x.count(6) - before, given);
        Check.due("7: the hour is 1 greater", x.count(0), hour + 1);
    }
}
