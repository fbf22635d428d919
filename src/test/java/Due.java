import java.util.function.LongSupplier;

/** Compares answers with those that are due, prints each that differs, and ends the program with 1 if one did. */
final class Due {
    static final Class<? extends RuntimeException> INDEX = IndexOutOfBoundsException.class;
    static final Class<? extends RuntimeException> ARGUMENT = IllegalArgumentException.class;
    static final Class<? extends RuntimeException> STATE = IllegalStateException.class;

    private static int wrong = 0;
    private static int looked = 0;

    private Due() {
    }

    static void is(String call, long want, long got) {
        looked++;
        if (got != want) {
            wrong++;
            System.out.println(call + " answered " + got + ", due is " + want);
        }
    }

    static void wrong(String text) {
        wrong++;
        System.out.println(text);
    }

    static int looked() {
        return looked;
    }

    /** The call is due to throw just this, and to leave the object's digest as it was. */
    static void refused(NumberLeases x, String call, Class<? extends RuntimeException> want, LongSupplier work) {
        long before = x.digest();
        String got;
        try {
            got = "answered " + work.getAsLong();
        } catch (RuntimeException e) {
            got = e.getClass() == want ? "" : "threw " + e;
        }
        looked++;
        if (!got.isEmpty()) {
            wrong++;
            System.out.println(call + " " + got + ", due is " + want.getSimpleName());
        }
        is(call + " changes nothing", before, x.digest());
    }

    /** Types a text into the buffer. */
    static void type(NumberLeases x, String text) {
        for (int k = 0; k < text.length(); k++) {
            x.append(text.charAt(k));
        }
    }

    static void end() {
        System.out.println(looked + " answers looked at, " + wrong + " not as due");
        if (wrong != 0 || looked == 0) {
            System.exit(1);
        }
    }
}
