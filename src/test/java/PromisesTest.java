/** Each promise by hand-made cases: ordinary inputs, the edges that the document names, wrong inputs. */
public final class PromisesTest {
    public static void main(String[] args) {
        newObject();
        build();
        setSpring();
        setCity();
        setCistern();
        arch();
        addMill();
        setSluice();
        mill();
        mend();
        quake();
        pass();
        hourOfGoingOn();
        hourOfMills();
        hourOfMillsThatFindNoRoom();
        hourOfCoins();
        hourOfLeaks();
        hourOfWear();
        count();
        foresee();
        advise();
        thirsty();
        worst();
        reaches();
        digest();
        twentyArches();
        Check.end();
    }

    // 1
    private static void newObject() {
        ArchWater x = new ArchWater();
        for (int what = 0; what < 12; what++) {
            Check.due("1: count(" + what + ")", x.count(what), 0);
        }
        Check.refused(x, "1: arch(0, 0)", Check.INDEX, () -> x.arch(0, 0));
        x.setSpring(0, 7);
        Check.due("1: pass(2)", x.pass(2), 0);
        Seen.counts("1: the spring without arches", x, 2, 0, 0, 0, 0, 0, 7, 7, 0, 0, 0, 0);
    }

    // 2
    private static void build() {
        ArchWater x = new ArchWater();
        Check.refused(x, "2: build(201, 1)", Check.ARGUMENT, () -> x.build(201, 1));
        Check.refused(x, "2: build(-1, 1)", Check.ARGUMENT, () -> x.build(-1, 1));
        Check.refused(x, "2: build(200, 0)", Check.ARGUMENT, () -> x.build(200, 0));
        Check.refused(x, "2: build(200, 41)", Check.ARGUMENT, () -> x.build(200, 41));
        Check.refused(x, "2: build(min, min)", Check.ARGUMENT,
                () -> x.build(Integer.MIN_VALUE, Integer.MIN_VALUE));
        Check.refused(x, "2: build(max, max)", Check.ARGUMENT,
                () -> x.build(Integer.MAX_VALUE, Integer.MAX_VALUE));
        Check.due("2: build(200, 40)", x.build(200, 40), 0);
        Check.due("2: build(100, 1)", x.build(100, 1), 1);
        Check.refused(x, "2: build(101, 1)", Check.ARGUMENT, () -> x.build(101, 1));
        Check.due("2: build(100, 2)", x.build(100, 2), 2);
        for (int i = 3; i < 20; i++) {
            Check.due("2: build(0, 5)", x.build(0, 5), i);
        }
        Check.refused(x, "2: the 21st", Check.STATE, () -> x.build(0, 5));
        Check.refused(x, "2: the 21st, too high", Check.ARGUMENT, () -> x.build(1, 5));
        Check.refused(x, "2: the 21st, too large", Check.ARGUMENT, () -> x.build(0, 41));
        Check.due("2: count(1)", x.count(1), 20);
    }

    // 3
    private static void setSpring() {
        ArchWater x = new ArchWater();
        Check.refused(x, "3: setSpring(-1, 0)", Check.INDEX, () -> x.setSpring(-1, 0));
        Check.refused(x, "3: setSpring(24, 0)", Check.INDEX, () -> x.setSpring(24, 0));
        Check.refused(x, "3: setSpring(24, 41)", Check.INDEX, () -> x.setSpring(24, 41));
        Check.refused(x, "3: setSpring(0, -1)", Check.ARGUMENT, () -> x.setSpring(0, -1));
        Check.refused(x, "3: setSpring(0, 41)", Check.ARGUMENT, () -> x.setSpring(0, 41));
        Check.due("3: setSpring(3, 40)", x.setSpring(3, 40), 0);
        Check.due("3: setSpring(3, 7)", x.setSpring(3, 7), 40);
        Check.due("3: setSpring(23, 1)", x.setSpring(23, 1), 0);
        Check.due("3: setSpring(0, 0)", x.setSpring(0, 0), 0);
        Check.due("3: setCity(3, 0)", x.setCity(3, 0), 0);
        x.pass(3);
        Check.due("3: given before the hour 3", x.count(6), 0);
        x.pass(1);
        Check.due("3: given in the hour 3", x.count(6), 7);
        x.pass(23);
        Check.due("3: given before the hour 27", x.count(6), 8);
        x.pass(1);
        Check.due("3: given in the hour 27", x.count(6), 15);
    }

    // 4
    private static void setCity() {
        ArchWater x = new ArchWater();
        Check.refused(x, "4: setCity(-1, 0)", Check.INDEX, () -> x.setCity(-1, 0));
        Check.refused(x, "4: setCity(24, 0)", Check.INDEX, () -> x.setCity(24, 0));
        Check.refused(x, "4: setCity(-1, -1)", Check.INDEX, () -> x.setCity(-1, -1));
        Check.refused(x, "4: setCity(0, -1)", Check.ARGUMENT, () -> x.setCity(0, -1));
        Check.refused(x, "4: setCity(0, 41)", Check.ARGUMENT, () -> x.setCity(0, 41));
        Check.due("4: setCity(3, 40)", x.setCity(3, 40), 0);
        Check.due("4: setCity(3, 7)", x.setCity(3, 7), 40);
        Check.due("4: setCity(23, 1)", x.setCity(23, 1), 0);
        Check.due("4: setSpring(3, 0)", x.setSpring(3, 0), 0);
        Check.due("4: thirst before the hour 3", x.pass(3), 0);
        Check.due("4: thirst in the hour 3", x.pass(1), 7);
        Check.due("4: thirst before the hour 27", x.pass(23), 1);
        Check.due("4: thirst in the hour 27", x.pass(1), 7);
    }

    // 5
    private static void setCistern() {
        ArchWater x = new ArchWater();
        Check.refused(x, "5: setCistern(-1)", Check.ARGUMENT, () -> x.setCistern(-1));
        Check.refused(x, "5: setCistern(501)", Check.ARGUMENT, () -> x.setCistern(501));
        x.build(200, 40);
        Seen.springAlways(x, 40);
        x.pass(5);
        Check.due("5: it holds 100 at first", x.count(4), 100);
        Check.due("5: what it cannot hold stays", x.arch(0, 2), 40);
        Check.due("5: spilt at the spring", x.count(7), 60);
        Check.due("5: setCistern(40)", x.setCistern(40), 60);
        Check.due("5: water in it", x.count(4), 40);
        Check.due("5: spilt with it", x.count(7), 120);
        Check.due("5: setCistern(500)", x.setCistern(500), 0);
        Check.due("5: water in it still", x.count(4), 40);
        x.pass(100);
        Check.due("5: it holds 500", x.count(4), 500);
        Check.due("5: setCistern(0)", x.setCistern(0), 500);
        x.pass(1);
        Check.due("5: it holds nothing", x.count(4), 0);
    }

    // 6
    private static void arch() {
        ArchWater x = new ArchWater();
        x.build(80, 20);
        x.build(52, 21);
        x.build(25, 22);
        x.build(25, 23);
        Seen.archNumbers("6: an arch", x, 0, 80, 20, 0, 0, 0, 28, 30, 0, 0);
        Seen.archNumbers("6: a slope of 27", x, 1, 52, 21, 0, 0, 0, 27, 29, 0, 0);
        Seen.archNumbers("6: no slope", x, 2, 25, 22, 0, 0, 0, 0, 2, 0, 0);
        Seen.archNumbers("6: the last one", x, 3, 25, 23, 0, 0, 0, 25, 27, 0, 0);
        x.build(10, 24);
        Seen.archNumbers("6: the last one but one", x, 3, 25, 23, 0, 0, 0, 15, 17, 0, 0);
        x.addMill(0, 5);
        x.setSpring(0, 19);
        x.quake(0, 17);
        x.pass(1);
        Seen.archNumbers("6: after an hour", x, 0, 80, 20, 16, 17, 2, 28, 30, 3, 1);
        Check.refused(x, "6: arch(-1, 0)", Check.INDEX, () -> x.arch(-1, 0));
        Check.refused(x, "6: arch(5, 0)", Check.INDEX, () -> x.arch(5, 0));
        Check.refused(x, "6: arch(20, 0)", Check.INDEX, () -> x.arch(20, 0));
        Check.refused(x, "6: arch(0, -1)", Check.INDEX, () -> x.arch(0, -1));
        Check.refused(x, "6: arch(0, 9)", Check.INDEX, () -> x.arch(0, 9));
    }

    // 7
    private static void addMill() {
        ArchWater x = new ArchWater();
        Check.refused(x, "7: addMill(0, 1) without arches", Check.INDEX, () -> x.addMill(0, 1));
        x.build(50, 20);
        x.build(40, 20);
        Check.refused(x, "7: addMill(-1, 1)", Check.INDEX, () -> x.addMill(-1, 1));
        Check.refused(x, "7: addMill(2, 1)", Check.INDEX, () -> x.addMill(2, 1));
        Check.refused(x, "7: addMill(2, 31)", Check.INDEX, () -> x.addMill(2, 31));
        Check.refused(x, "7: addMill(0, 0)", Check.ARGUMENT, () -> x.addMill(0, 0));
        Check.refused(x, "7: addMill(0, 31)", Check.ARGUMENT, () -> x.addMill(0, 31));
        Check.due("7: addMill(1, 30)", x.addMill(1, 30), 1);
        Check.due("7: its appetite", x.mill(1, 0), 30);
        Check.due("7: its sluice", x.mill(1, 1), 0);
        Check.due("7: arch(1, 8)", x.arch(1, 8), 1);
        Check.due("7: arch(0, 8)", x.arch(0, 8), 0);
        Check.due("7: count(2)", x.count(2), 1);
        Check.refused(x, "7: addMill(1, 1) again", Check.STATE, () -> x.addMill(1, 1));
        Check.refused(x, "7: addMill(1, 31) again", Check.ARGUMENT, () -> x.addMill(1, 31));
        Check.due("7: addMill(0, 1)", x.addMill(0, 1), 2);
        Check.due("7: count(2) then", x.count(2), 2);
    }

    // 8
    private static void setSluice() {
        ArchWater x = new ArchWater();
        x.build(50, 20);
        x.build(40, 20);
        x.addMill(1, 6);
        Check.refused(x, "8: setSluice(-1, 1)", Check.INDEX, () -> x.setSluice(-1, 1));
        Check.refused(x, "8: setSluice(2, 11)", Check.INDEX, () -> x.setSluice(2, 11));
        Check.refused(x, "8: setSluice(1, -1)", Check.ARGUMENT, () -> x.setSluice(1, -1));
        Check.refused(x, "8: setSluice(1, 11)", Check.ARGUMENT, () -> x.setSluice(1, 11));
        Check.refused(x, "8: setSluice(0, 1)", Check.STATE, () -> x.setSluice(0, 1));
        Check.refused(x, "8: setSluice(0, 11)", Check.ARGUMENT, () -> x.setSluice(0, 11));
        Check.due("8: setSluice(1, 10)", x.setSluice(1, 10), 0);
        Check.due("8: setSluice(1, 3)", x.setSluice(1, 3), 10);
        Check.due("8: mill(1, 1)", x.mill(1, 1), 3);
        Check.due("8: setSluice(1, 0)", x.setSluice(1, 0), 3);
    }

    // 9
    private static void mill() {
        ArchWater x = new ArchWater();
        x.build(50, 20);
        x.build(40, 20);
        x.addMill(0, 6);
        x.setSluice(0, 4);
        x.setSpring(0, 20);
        for (int what = 0; what < 4; what++) {
            Check.due("9: mill(1, " + what + ")", x.mill(1, what), -1);
        }
        Check.refused(x, "9: mill(-1, 0)", Check.INDEX, () -> x.mill(-1, 0));
        Check.refused(x, "9: mill(2, 0)", Check.INDEX, () -> x.mill(2, 0));
        Check.refused(x, "9: mill(0, -1)", Check.INDEX, () -> x.mill(0, -1));
        Check.refused(x, "9: mill(0, 4)", Check.INDEX, () -> x.mill(0, 4));
        Check.refused(x, "9: mill(1, 4) without a mill", Check.INDEX, () -> x.mill(1, 4));
        x.pass(1);
        Seen.millNumbers("9: before the water", x, 0, 6, 4, 0, 0);
        x.pass(1);
        Seen.millNumbers("9: 4 tenths of 12", x, 0, 6, 4, 4, 4);
        x.setSluice(0, 0);
        Seen.millNumbers("9: closed since", x, 0, 6, 0, 4, 4);
        x.pass(1);
        Seen.millNumbers("9: an hour later", x, 0, 6, 0, 4, 0);
    }

    // 10
    private static void mend() {
        ArchWater x = new ArchWater();
        x.build(200, 40);
        x.addMill(0, 30);
        x.setSluice(0, 10);
        Seen.springAlways(x, 40);
        x.quake(0, 1);
        Check.refused(x, "10: mend(0) without a coin", Check.STATE, () -> x.mend(0));
        x.pass(2);
        Check.due("10: coins", x.count(3), 3);
        Check.due("10: drops", x.arch(0, 4), 8);
        x.quake(0, 14);
        Check.refused(x, "10: mend(-1)", Check.INDEX, () -> x.mend(-1));
        Check.refused(x, "10: mend(1)", Check.INDEX, () -> x.mend(1));
        Check.due("10: mend(0) of 15", x.mend(0), 5);
        Check.due("10: its wear", x.arch(0, 3), 5);
        Check.due("10: its drops", x.arch(0, 4), 0);
        Check.due("10: coins then", x.count(3), 2);
        Check.due("10: mend(0) of 5", x.mend(0), 0);
        Check.refused(x, "10: mend(0) not worn", Check.STATE, () -> x.mend(0));
        x.quake(0, 10);
        Check.due("10: mend(0) of 10", x.mend(0), 0);
        x.quake(0, 10);
        Check.refused(x, "10: mend(0) with the coins spent", Check.STATE, () -> x.mend(0));
        Check.due("10: coins at last", x.count(3), 0);
    }

    // 11
    private static void quake() {
        ArchWater x = new ArchWater();
        x.build(10, 10);
        x.build(10, 10);
        Check.refused(x, "11: quake(-1, 1)", Check.INDEX, () -> x.quake(-1, 1));
        Check.refused(x, "11: quake(2, 0)", Check.INDEX, () -> x.quake(2, 0));
        Check.refused(x, "11: quake(0, 0)", Check.ARGUMENT, () -> x.quake(0, 0));
        Check.refused(x, "11: quake(0, 51)", Check.ARGUMENT, () -> x.quake(0, 51));
        Check.due("11: quake(1, 1)", x.quake(1, 1), 1);
        Check.due("11: quake(1, 48)", x.quake(1, 48), 49);
        Check.due("11: quake(1, 2)", x.quake(1, 2), 50);
        Check.due("11: arch(1, 3)", x.arch(1, 3), 50);
        Check.due("11: arch(0, 3)", x.arch(0, 3), 0);
        Check.due("11: quake(0, 50)", x.quake(0, 50), 50);
    }

    // 12: the city, the spring, and how hours are told
    private static void pass() {
        ArchWater x = new ArchWater();
        Check.refused(x, "12: pass(0)", Check.ARGUMENT, () -> x.pass(0));
        Check.refused(x, "12: pass(-1)", Check.ARGUMENT, () -> x.pass(-1));
        Check.refused(x, "12: pass(101)", Check.ARGUMENT, () -> x.pass(101));
        x.build(5, 10);
        x.setSpring(0, 14);
        Seen.cityAlways(x, 4);
        Check.due("12: the city drinks before water comes", x.pass(2), 8);
        Seen.counts("12: two hours", x, 2, 1, 0, 0, 7, 3, 14, 4, 0, 0, 0, 8);
        Check.due("12: it drinks what there is", x.pass(2), 0);
        Seen.counts("12: four hours", x, 4, 1, 0, 0, 2, 0, 14, 4, 0, 0, 8, 8);
        Check.due("12: it drinks all that is left", x.pass(1), 2);
        Seen.counts("12: five hours", x, 5, 1, 0, 0, 0, 0, 14, 4, 0, 0, 10, 10);
        Check.due("12: pass(100)", x.pass(100), 4 * 100 - 4 * 10);
        Check.due("12: the hour", x.count(0), 105);
    }

    // 12, step 2
    private static void hourOfGoingOn() {
        ArchWater x = new ArchWater();
        x.build(10, 30);
        x.build(5, 8);
        x.build(5, 3);
        x.setSpring(0, 30);
        x.pass(1);
        Seen.waters("12: the spring", x, 30, 0, 0);
        x.pass(1);
        Seen.waters("12: at most the rate", x, 23, 7, 0);
        x.pass(1);
        Seen.waters("12: at most what it can hold", x, 20, 8, 2);
        x.pass(1);
        Seen.waters("12: the last arch sends first", x, 18, 8, 2);
        Check.due("12: the cistern then", x.count(4), 2);
        x.setCistern(3);
        x.pass(1);
        Seen.waters("12: what the cistern cannot hold stays", x, 16, 8, 3);
        Check.due("12: the cistern is full", x.count(4), 3);
        Check.due("12: nothing is spilt", x.count(7), 0);
    }

    // 12, step 3
    private static void hourOfMills() {
        ArchWater x = new ArchWater();
        x.build(30, 40);
        x.build(18, 40);
        x.build(6, 40);
        x.build(0, 40);
        x.addMill(0, 30);
        x.addMill(1, 4);
        x.addMill(3, 30);
        x.setSluice(0, 5);
        x.setSluice(1, 9);
        x.setSluice(3, 10);
        x.setSpring(0, 40);
        x.pass(2);
        // 14 go on, 7 to the mill; 3 of them come back to the arch 2.
        Seen.waters("12: comes back two further on", x, 26, 7, 3, 0);
        Seen.millNumbers("12: a mill's half", x, 0, 30, 5, 7, 7);
        Seen.counts("12: a mill's half", x, 2, 4, 3, 0, 0, 36, 40, 0, 0, 4, 0, 0);
        x.pass(1);
        // The mill of the arch 1 takes 4 of the 6 that are 9 tenths of 7: its appetite.
        Seen.millNumbers("12: at most its appetite", x, 1, 4, 9, 4, 4);
        Seen.waters("12: the second hour of mills", x, 12, 7, 6, 5);
        Seen.counts("12: a coin for 14 of flour", x, 3, 4, 3, 1, 0, 30, 40, 0, 0, 10, 0, 0);
        x.pass(1);
        // The mill of the arch 3 takes the 2 that go on; 1 of them comes back to the cistern.
        Seen.millNumbers("12: the last mill", x, 3, 30, 10, 2, 2);
        Check.due("12: its half is in the cistern", x.count(4), 1);
        Check.due("12: the coins for 20 of flour", x.count(3), 2);
        Check.due("12: the flour", x.mill(0, 2), 20);
    }

    // 12, step 3
    private static void hourOfMillsThatFindNoRoom() {
        ArchWater x = new ArchWater();
        x.build(30, 40);
        x.build(0, 40);
        x.build(0, 1);
        x.addMill(0, 30);
        x.setSluice(0, 5);
        x.setSpring(0, 40);
        x.pass(2);
        // 30 go on, 15 to the mill; of the 7 that should come back the arch 2 holds 1.
        Seen.waters("12: the half finds no room", x, 10, 15, 1);
        Seen.counts("12: the half finds no room", x, 2, 3, 1, 1, 0, 26, 40, 6, 0, 8, 0, 0);

        ArchWater y = new ArchWater();
        y.build(30, 40);
        y.setCistern(2);
        y.addMill(0, 30);
        y.setSluice(0, 10);
        y.setSpring(0, 40);
        y.pass(2);
        Seen.counts("12: the cistern holds only 2", y, 2, 1, 1, 3, 2, 10, 40, 13, 0, 15, 0, 0);
    }

    // 12, step 3
    private static void hourOfCoins() {
        ArchWater x = new ArchWater();
        x.build(200, 40);
        x.addMill(0, 9);
        x.setSluice(0, 10);
        Seen.springAlways(x, 40);
        for (int hour = 0; hour < 12; hour++) {
            x.pass(1);
            Check.due("12: flour, 9 in an hour", x.mill(0, 2), 9 * hour);
            Check.due("12: coins for it", x.count(3), 9 * hour / 10);
        }
    }

    // 12, step 5
    private static void hourOfLeaks() {
        ArchWater x = new ArchWater();
        x.build(0, 40);
        x.setCistern(0);
        x.setSpring(0, 13);
        x.quake(0, 25);
        x.pass(1);
        // 13 * 25 / 10 = 32 drops.
        Check.due("12: leaks from the spring's hour on", x.arch(0, 2), 10);
        Check.due("12: drops left", x.arch(0, 4), 2);
        x.pass(1);
        // 25 drops more are 27.
        Check.due("12: leaks again", x.arch(0, 2), 8);
        Check.due("12: drops left again", x.arch(0, 4), 7);
        Check.due("12: leaked from it", x.arch(0, 7), 5);
        Check.due("12: leaked", x.count(8), 5);

        ArchWater y = new ArchWater();
        y.build(0, 40);
        y.setCistern(0);
        y.setSpring(0, 1);
        y.quake(0, 50);
        y.pass(2);
        Check.due("12: the last drop of water", y.arch(0, 2), 0);
        Check.due("12: its drops", y.arch(0, 4), 0);
        y.pass(21);
        Check.due("12: nothing more leaks", y.count(8), 1);
    }

    // 12, step 6
    private static void hourOfWear() {
        ArchWater x = new ArchWater();
        x.build(3, 40);
        x.build(2, 40);
        x.build(1, 40);
        x.build(0, 40);
        x.addMill(1, 1);
        x.addMill(2, 1);
        x.setSluice(1, 1);
        x.setSpring(21, 40);
        x.pass(23);
        Seen.wears("12: before the hour 23", x, 0, 0, 0, 0);
        x.pass(1);
        Seen.wears("12: the arch 3 has no water, the mill at 2 is closed", x, 1, 2, 1, 0);
        x.quake(1, 47);
        x.pass(23);
        Seen.wears("12: before the hour 47", x, 1, 49, 1, 0);
        x.pass(1);
        Check.due("12: at most 50", x.arch(1, 3), 50);

        ArchWater y = new ArchWater();
        y.build(0, 1);
        y.addMill(0, 1);
        y.setSluice(0, 1);
        y.setCistern(0);
        y.setSpring(19, 1);
        y.quake(0, 20);
        y.pass(24);
        Check.due("12: the last water leaks in the hour 23", y.arch(0, 2), 0);
        Check.due("12: then it is not worn", y.arch(0, 3), 20);
    }

    // 13
    private static void count() {
        ArchWater x = new ArchWater();
        x.build(50, 40);
        x.build(25, 20);
        x.build(0, 30);
        x.addMill(0, 10);
        x.addMill(1, 30);
        x.setSluice(0, 5);
        Seen.springAlways(x, 30);
        Seen.cityAlways(x, 2);
        x.quake(0, 10);
        x.pass(6);
        long kept = x.arch(0, 2) + x.arch(1, 2) + x.arch(2, 2);
        Check.due("13: the hour", x.count(0), 6);
        Check.due("13: arches", x.count(1), 3);
        Check.due("13: mills", x.count(2), 2);
        Check.due("13: coins", x.count(3), x.mill(0, 2) / 10);
        Check.due("13: water on arches", x.count(5), kept);
        Check.due("13: given", x.count(6), 180);
        Check.due("13: leaked", x.count(8), x.arch(0, 7));
        Check.due("13: used up", x.count(9), x.mill(0, 2) / 2);
        Check.due("13: drunk and thirst", x.count(10) + x.count(11), 12);
        Check.due("13: all water is somewhere", x.count(6),
                x.count(4) + x.count(5) + x.count(7) + x.count(8) + x.count(9) + x.count(10));
        Check.refused(x, "13: count(-1)", Check.INDEX, () -> x.count(-1));
        Check.refused(x, "13: count(12)", Check.INDEX, () -> x.count(12));
    }

    // 14
    private static void foresee() {
        ArchWater x = new ArchWater();
        x.build(40, 40);
        x.build(20, 40);
        x.addMill(0, 10);
        x.setSluice(0, 5);
        Seen.springAlways(x, 12);
        Seen.cityAlways(x, 5);
        x.quake(1, 9);
        x.pass(20);
        Check.refused(x, "14: foresee(0, 0)", Check.ARGUMENT, () -> x.foresee(0, 0));
        Check.refused(x, "14: foresee(0, 4)", Check.ARGUMENT, () -> x.foresee(0, 4));
        Check.refused(x, "14: foresee(101, 0)", Check.ARGUMENT, () -> x.foresee(101, 0));
        Check.refused(x, "14: foresee(1, -1)", Check.INDEX, () -> x.foresee(1, -1));
        Check.refused(x, "14: foresee(100, 4)", Check.INDEX, () -> x.foresee(100, 4));
        x.setSpring(22, 0);
        x.setCity(22, 40);
        x.setCistern(30);
        long before = x.digest();
        int leaked = x.count(8);
        int flour = x.mill(0, 2);
        int thirst = x.foresee(100, 0);
        int leaks = x.foresee(100, 1);
        int cistern = x.foresee(100, 2);
        int ground = x.foresee(100, 3);
        Check.due("14: nothing is changed", x.digest(), before);
        Check.due("14: foresee(100, 0)", thirst, x.pass(100));
        Check.due("14: there is thirst", thirst > 0 ? 1 : 0, 1);
        Check.due("14: foresee(100, 1)", leaks, x.count(8) - leaked);
        Check.due("14: foresee(100, 2)", cistern, x.count(4));
        Check.due("14: foresee(100, 3)", ground, x.mill(0, 2) - flour);
    }

    // 15
    private static void advise() {
        ArchWater x = twoMillsThatTakeOneEach();
        Check.refused(x, "15: advise(0)", Check.ARGUMENT, () -> x.advise(0));
        Check.refused(x, "15: advise(49)", Check.ARGUMENT, () -> x.advise(49));
        long before = x.digest();
        Check.due("15: no thirst in two hours", x.advise(2), -1);
        Check.due("15: of both the first", x.advise(3), 0);
        Check.due("15: 48 hours", x.advise(48), 0);
        Check.due("15: nothing is changed", x.digest(), before);
        x.setSluice(0, 0);
        Check.due("15: with one closed there is no thirst", x.advise(3), -1);

        ArchWater y = new ArchWater();
        y.build(40, 40);
        y.build(20, 40);
        y.addMill(0, 1);
        y.addMill(1, 5);
        y.setSluice(0, 10);
        y.setSluice(1, 10);
        y.setSpring(0, 10);
        y.setCity(3, 10);
        y.pass(1);
        // Thirst is 4 as it is, 3 with the first one closed, 1 with the second one closed.
        Check.due("15: the second is better", y.advise(3), 1);
        Check.due("15: foresee(3, 0)", y.foresee(3, 0), 4);
        y.setSluice(1, 0);
        Check.due("15: then the first", y.advise(3), 0);
        y.setSluice(0, 0);
        Check.due("15: none is open", y.advise(3), -1);

        Check.due("15: no arches", new ArchWater().advise(1), -1);
    }

    private static ArchWater twoMillsThatTakeOneEach() {
        ArchWater x = new ArchWater();
        x.build(40, 40);
        x.build(20, 40);
        x.addMill(0, 1);
        x.addMill(1, 1);
        x.setSluice(0, 10);
        x.setSluice(1, 10);
        x.setSpring(0, 2);
        x.setCity(3, 1);
        x.pass(1);
        return x;
    }

    // 16
    private static void thirsty() {
        Check.due("16: a new object", new ArchWater().thirsty(), -1);
        ArchWater x = aDayOldWithWaterInTheCistern(8);
        x.setCity(7, 1);
        long before = x.digest();
        Check.due("16: in 200 hours", x.thirsty(), 200);
        Check.due("16: nothing is changed", x.digest(), before);
        x.setCity(6, 1);
        x.setCity(7, 0);
        Check.due("16: in 199 hours", x.thirsty(), 199);
        x.setCity(0, 9);
        Check.due("16: in this hour", x.thirsty(), 1);
        x.pass(1);
        Check.due("16: behind thirst", x.thirsty(), 6);
        x.setCity(1, 1);
        Check.due("16: in this hour again", x.thirsty(), 1);

        ArchWater y = aDayOldWithWaterInTheCistern(8);
        y.setCity(8, 1);
        Check.due("16: in 201 hours", y.thirsty(), -1);
    }

    private static ArchWater aDayOldWithWaterInTheCistern(int water) {
        ArchWater x = new ArchWater();
        x.build(200, 40);
        x.setSpring(0, water);
        x.pass(24);
        x.setSpring(0, 0);
        return x;
    }

    // 17
    private static void worst() {
        ArchWater x = new ArchWater();
        Check.due("17: no arches", x.worst(), -1);
        x.setCistern(0);
        x.build(28, 10);
        x.build(0, 10);
        x.setSpring(0, 10);
        x.setSpring(1, 10);
        x.pass(2);
        Seen.waters("17: both stand full", x, 10, 10);
        Check.due("17: nothing leaked", x.worst(), -1);
        x.setSpring(0, 0);
        x.setSpring(1, 0);
        x.quake(1, 10);
        x.pass(1);
        Check.due("17: the arch 1 alone leaked", x.worst(), 1);
        x.quake(0, 23);
        x.pass(1);
        // The arch 0 holds 9 then, so it loses 2 at once; the arch 1 has lost 1 in each hour.
        Check.due("17: leaked from the arch 0", x.arch(0, 7), 2);
        Check.due("17: leaked from the arch 1", x.arch(1, 7), 2);
        Check.due("17: of both the first", x.worst(), 0);
        x.quake(1, 40);
        x.pass(1);
        Check.due("17: the arch 1 leaked more", x.worst(), 1);
    }

    // 18
    private static void reaches() {
        ArchWater x = new ArchWater();
        Check.dueReal("18: a new object", x.reaches(), 0.0);
        x.build(200, 40);
        Seen.cityAlways(x, 1);
        x.pass(1);
        Check.dueReal("18: nothing given", x.reaches(), 0.0);
        x.setSpring(1, 3);
        x.pass(1);
        Check.dueReal("18: nothing drunk", x.reaches(), 0.0);
        x.pass(2);
        Check.dueReal("18: a third", x.reaches(), 1.0 / 3.0);
        x.pass(2);
        Check.dueReal("18: all", x.reaches(), 1.0);
    }

    // 19
    private static void digest() {
        ArchWater x = new ArchWater();
        long d = 601;
        for (int i = 0; i < 12 + 48; i++) {
            d *= 31;
        }
        Check.due("19: a new object", x.digest(), d);
        int[] spring = new int[24];
        int[] city = new int[24];
        for (int hour = 0; hour < 24; hour++) {
            spring[hour] = (hour * 7 + 3) % 41;
            city[hour] = (hour * 5 + 1) % 13;
            x.setSpring(hour, spring[hour]);
            x.setCity(hour, city[hour]);
        }
        x.build(90, 30);
        x.build(70, 20);
        x.build(10, 40);
        x.addMill(1, 9);
        x.setSluice(1, 7);
        x.quake(2, 13);
        x.pass(50);
        d = 601;
        for (int what = 0; what < 12; what++) {
            d = d * 31 + x.count(what);
        }
        for (int hour = 0; hour < 24; hour++) {
            d = d * 31 + spring[hour];
            d = d * 31 + city[hour];
        }
        for (int i = 0; i < 3; i++) {
            for (int what = 0; what < 9; what++) {
                d = d * 31 + x.arch(i, what);
            }
            for (int what = 0; what < 4; what++) {
                d = d * 31 + x.mill(i, what);
            }
        }
        Check.due("19: after 50 hours", x.digest(), d);
    }

    // 2, 12 to 19: as many arches as there can be
    private static void twentyArches() {
        ArchWater x = new ArchWater();
        for (int i = 0; i < 20; i++) {
            x.build(200 - 10 * i, 40);
            x.addMill(i, 30);
        }
        x.setSpring(0, 5);
        x.setCity(21, 7);
        Check.due("20 arches: thirsty()", x.thirsty(), 22);
        Check.due("20 arches: foresee(20, 2)", x.foresee(20, 2), 0);
        Check.due("20 arches: foresee(21, 2)", x.foresee(21, 2), 5);
        x.pass(20);
        Check.due("20 arches: the water is at the last one", x.arch(19, 2), 5);
        x.setSluice(19, 10);
        Check.due("20 arches: foresee(2, 0)", x.foresee(2, 0), 5);
        Check.due("20 arches: foresee(2, 3)", x.foresee(2, 3), 5);
        Check.due("20 arches: advise(2)", x.advise(2), 19);
        x.setSluice(19, 0);
        Check.due("20 arches: the city", x.pass(3), 2);
        Check.due("20 arches: worst()", x.worst(), -1);
        x.quake(19, 50);
        x.pass(20);
        Check.due("20 arches: before water comes", x.worst(), -1);
        x.pass(1);
        Check.due("20 arches: the last one leaks", x.worst(), 19);
        Check.due("20 arches: mills", x.count(2), 20);
    }
}
