import java.util.function.Supplier;
import java.util.function.ToLongFunction;

/** What the project's tests share: each prints what is not as due, and ends with exit code 1 if anything was. */
final class Check {
    static final Class<? extends RuntimeException> INDEX = IndexOutOfBoundsException.class;
    static final Class<? extends RuntimeException> ARGUMENT = IllegalArgumentException.class;
    static final Class<? extends RuntimeException> STATE = IllegalStateException.class;

    private static int wrong = 0;

    private Check() {
    }

    static void due(String what, long got, long want) {
        if (got != want) {
            tell(what + " answered " + got + ", due is " + want);
        }
    }

    static void dueReal(String what, double got, double want) {
        if (got != want) {
            tell(what + " answered " + got + ", due is " + want);
        }
    }

    static void dueText(String what, String got, String want) {
        if (!got.equals(want)) {
            tell(what + " is\n" + got + "\ndue is\n" + want);
        }
    }

    /** The call throws exactly this kind, and changes nothing. */
    static void refused(ArchWater x, String call, Class<? extends RuntimeException> kind, Runnable run) {
        String before = picture(x);
        Class<?> thrown = null;
        try {
            run.run();
        } catch (RuntimeException e) {
            thrown = e.getClass();
        }
        if (thrown != kind) {
            tell(call + " threw " + thrown + ", due is " + kind);
        }
        dueText(call + ", what is seen behind it", picture(x), before);
    }

    /** The call throws exactly this kind; an object that it was made on goes on like one that never saw it. */
    static void refused(Supplier<ArchWater> made, String call, Class<? extends RuntimeException> kind,
            ToLongFunction<ArchWater> run) {
        ArchWater x = made.get();
        ArchWater twin = made.get();
        refused(x, call, kind, () -> run.applyAsLong(x));
        dueText(call + ", what is seen beside a twin", picture(x), picture(twin));
        due(call + ", thirst of 100 hours more", x.pass(100), twin.pass(100));
        dueText(call + ", what is seen 100 hours later", picture(x), picture(twin));
    }

    /** The call is taken, and answers this. */
    static void taken(Supplier<ArchWater> made, String call, long want, ToLongFunction<ArchWater> run) {
        due(call, run.applyAsLong(made.get()), want);
    }

    /** The call answers this, and changes nothing. */
    static void looked(Supplier<ArchWater> made, String call, long want, ToLongFunction<ArchWater> run) {
        ArchWater x = made.get();
        String before = picture(x);
        due(call, run.applyAsLong(x), want);
        dueText(call + ", what is seen behind it", picture(x), before);
    }

    /**
     * What is seen of an object. The digest does not tell what the cistern could hold,
     * but the water that is foreseen in it does.
     */
    static String picture(ArchWater x) {
        StringBuilder text = new StringBuilder();
        text.append("digest ").append(x.digest());
        for (int what = 0; what < 4; what++) {
            text.append(", foreseen ").append(x.foresee(1, what)).append(' ').append(x.foresee(100, what));
        }
        text.append(", thirsty ").append(x.thirsty()).append(", advised ").append(x.advise(48));
        text.append(", worst ").append(x.worst()).append(", reaches ").append(x.reaches());
        return text.toString();
    }

    static void end() {
        System.out.println(wrong == 0 ? "all is as due" : wrong + " answers are not as due");
        if (wrong != 0) {
            System.exit(1);
        }
    }

    private static void tell(String text) {
        wrong++;
        System.out.println(text);
    }
}
