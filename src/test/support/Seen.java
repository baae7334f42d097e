/** What the project's tests see of an object, several answers at a time, and how they set whole tables. */
final class Seen {
    private Seen() {
    }

    static void springAlways(ArchWater x, int water) {
        for (int hour = 0; hour < 24; hour++) {
            x.setSpring(hour, water);
        }
    }

    static void cityAlways(ArchWater x, int water) {
        for (int hour = 0; hour < 24; hour++) {
            x.setCity(hour, water);
        }
    }

    static void counts(String what, ArchWater x, int... want) {
        for (int i = 0; i < want.length; i++) {
            Check.due(what + ": count(" + i + ")", x.count(i), want[i]);
        }
    }

    static void archNumbers(String what, ArchWater x, int arch, int... want) {
        for (int i = 0; i < want.length; i++) {
            Check.due(what + ": arch(" + arch + ", " + i + ")", x.arch(arch, i), want[i]);
        }
    }

    static void millNumbers(String what, ArchWater x, int arch, int... want) {
        for (int i = 0; i < want.length; i++) {
            Check.due(what + ": mill(" + arch + ", " + i + ")", x.mill(arch, i), want[i]);
        }
    }

    static void waters(String what, ArchWater x, int... want) {
        ofEachArch(what + ": water", x, 2, want);
    }

    static void wears(String what, ArchWater x, int... want) {
        ofEachArch(what + ": wear", x, 3, want);
    }

    static void drops(String what, ArchWater x, int... want) {
        ofEachArch(what + ": drops", x, 4, want);
    }

    static void leaked(String what, ArchWater x, int... want) {
        ofEachArch(what + ": leaked", x, 7, want);
    }

    private static void ofEachArch(String what, ArchWater x, int number, int... want) {
        for (int i = 0; i < want.length; i++) {
            Check.due(what + " of the arch " + i, x.arch(i, number), want[i]);
        }
    }
}
