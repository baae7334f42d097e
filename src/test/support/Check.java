/** What the project's tests share: each prints what is not as due, and ends with exit code 1 if anything was. */
final class Check {
    static final Class<? extends RuntimeException> INDEX = IndexOutOfBoundsException.class;
    static final Class<? extends RuntimeException> ARGUMENT = IllegalArgumentException.class;
    static final Class<? extends RuntimeException> STATE = IllegalStateException.class;

    private static int wrong = 0;

    private Check() {
    }

    static void due(String what, long got, long want) {
        if (got != want) {
            tell(what + " answered " + got + ", due is " + want);
        }
    }

    static void dueReal(String what, double got, double want) {
        if (got != want) {
            tell(what + " answered " + got + ", due is " + want);
        }
    }

    static void dueText(String what, String got, String want) {
        if (!got.equals(want)) {
            tell(what + " is\n" + got + "\ndue is\n" + want);
        }
    }

    /** The call throws exactly this kind, and changes nothing. */
    static void refused(ArchWater x, String call, Class<? extends RuntimeException> kind, Runnable run) {
        long before = x.digest();
        Class<?> thrown = null;
        try {
            run.run();
        } catch (RuntimeException e) {
            thrown = e.getClass();
        }
        if (thrown != kind) {
            tell(call + " threw " + thrown + ", due is " + kind);
        }
        due(call + ", the digest behind it", x.digest(), before);
    }

    static void end() {
        System.out.println(wrong == 0 ? "all is as due" : wrong + " answers are not as due");
        if (wrong != 0) {
            System.exit(1);
        }
    }

    private static void tell(String text) {
        wrong++;
        System.out.println(text);
    }
}
