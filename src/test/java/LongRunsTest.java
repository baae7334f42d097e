import java.util.ArrayList;
import java.util.List;

/** Long mixed runs: no water is lost or made, and what is foreseen comes true on an object that lives through it. */
public final class LongRunsTest {
    private static final int RUNS = 60;
    // With what is built at first and what is asked at last, no object sees more than 512 calls.
    private static final int CALLS = 200;
    private static final int KINDS = 12;

    private long seed;
    private final List<int[]> calls = new ArrayList<>();

    private LongRunsTest(long seed) {
        this.seed = seed;
    }

    public static void main(String[] args) {
        for (int i = 0; i < RUNS; i++) {
            new LongRunsTest(i * 7919L + 1).run();
        }
        Check.end();
    }

    private void run() {
        settle();
        for (int i = 0; i < CALLS; i++) {
            call(new int[] {below(KINDS), below(26) - 1, below(48) - 2, below(3)});
            if (i % 10 == 0) {
                balance();
                foreseen(1 + below(100));
                thirsty();
                advised(1 + below(48));
            }
        }
    }

    /** Without water and arches from the start, most calls would find nothing to do. */
    private void settle() {
        int height = 200;
        int arches = below(21);
        for (int i = 0; i < arches; i++) {
            call(new int[] {0, height, 1 + below(40), 0});
            height = Math.max(0, height - below(35));
        }
        for (int hour = 0; hour < 24; hour++) {
            call(new int[] {1, hour, below(41), 0});
            call(new int[] {2, hour, below(20), 0});
        }
        for (int i = 0; i < 8; i++) {
            call(new int[] {4, below(20), 1 + below(30), 0});
            call(new int[] {5, below(20), below(11), 0});
        }
    }

    private void call(int[] call) {
        calls.add(call);
    }

    private static void carryOut(ArchWater on, int[] call) {
        try {
            switch (call[0]) {
                case 0: on.build(call[1], call[2]); break;
                case 1: on.setSpring(call[1], call[2]); break;
                case 2: on.setCity(call[1], call[2] / 2); break;
                case 3: on.setCistern(call[2] * 10); break;
                case 4: on.addMill(call[1], call[2]); break;
                case 5: on.setSluice(call[1], call[2] / 4); break;
                case 6: on.mend(call[1]); break;
                case 7: on.quake(call[1], call[2] / 4); break;
                case 8: on.pass(call[2]); break;
                default: on.pass(1 + call[3]); break;
            }
        } catch (IndexOutOfBoundsException | IllegalArgumentException | IllegalStateException e) {
            // Refused calls belong to the run: they must change nothing.
        }
    }

    /** A new object that has seen all calls so far; any two of them are alike. */
    private ArchWater twin() {
        ArchWater twin = new ArchWater();
        for (int[] call : calls) {
            carryOut(twin, call);
        }
        return twin;
    }

    private void balance() {
        ArchWater x = twin();
        int water = 0;
        int leaked = 0;
        int mills = 0;
        for (int i = 0; i < x.count(1); i++) {
            water += x.arch(i, 2);
            leaked += x.arch(i, 7);
            mills += x.arch(i, 8);
            within("water of an arch", x.arch(i, 2), 0, x.arch(i, 1));
            within("wear of an arch", x.arch(i, 3), 0, 50);
            within("drops of an arch", x.arch(i, 4), 0, 9);
            within("what a mill took", x.mill(i, 3), -1, Math.max(-1, x.mill(i, 0)));
        }
        Check.due("mills", x.count(2), mills);
        Check.due("water on arches", x.count(5), water);
        Check.due("leaked", x.count(8), leaked);
        Check.due("all water that was given", x.count(6),
                x.count(4) + x.count(5) + x.count(7) + x.count(8) + x.count(9) + x.count(10));
    }

    private void foreseen(int hours) {
        ArchWater x = twin();
        long before = x.digest();
        int thirst = x.foresee(hours, 0);
        int leaks = x.foresee(hours, 1);
        int cistern = x.foresee(hours, 2);
        int flour = x.foresee(hours, 3);
        Check.due("the digest behind foresee", x.digest(), before);
        ArchWater twin = twin();
        Check.due("the digest of a twin", twin.digest(), before);
        Check.due("foresee(" + hours + ", 0)", thirst, twin.pass(hours));
        Check.due("foresee(" + hours + ", 1)", leaks, twin.count(8) - x.count(8));
        Check.due("foresee(" + hours + ", 2)", cistern, twin.count(4));
        Check.due("foresee(" + hours + ", 3)", flour, flourOf(twin) - flourOf(x));
    }

    private void thirsty() {
        ArchWater x = twin();
        long before = x.digest();
        int told = x.thirsty();
        Check.due("the digest behind thirsty", x.digest(), before);
        ArchWater twin = twin();
        int first = -1;
        for (int hours = 1; hours <= 200 && first < 0; hours++) {
            if (twin.pass(1) > 0) {
                first = hours;
            }
        }
        Check.due("thirsty()", told, first);
    }

    private void advised(int hours) {
        ArchWater x = twin();
        long before = x.digest();
        int told = x.advise(hours);
        Check.due("the digest behind advise", x.digest(), before);
        int best = -1;
        int least = twin().pass(hours);
        for (int i = 0; i < x.count(1); i++) {
            if (x.arch(i, 8) == 1) {
                ArchWater twin = twin();
                twin.setSluice(i, 0);
                int thirst = twin.pass(hours);
                if (thirst < least) {
                    least = thirst;
                    best = i;
                }
            }
        }
        Check.due("advise(" + hours + ")", told, best);
    }

    private static int flourOf(ArchWater of) {
        int flour = 0;
        for (int i = 0; i < of.count(1); i++) {
            flour += Math.max(0, of.mill(i, 2));
        }
        return flour;
    }

    private static void within(String what, int number, int least, int most) {
        if (number < least || number > most) {
            Check.due(what + " (from " + least + " to " + most + ")", number, number < least ? least : most);
        }
    }

    /** The same numbers in every run of the tests, so that a fault can be found again. */
    private int below(int end) {
        seed = seed * 6364136223846793005L + 1442695040888963407L;
        return (int) Math.floorMod(seed >>> 33, (long) end);
    }
}
