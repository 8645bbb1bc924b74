import java.util.function.LongSupplier;

/** Counts what is right and wrong in one test program. */
final class Check {
    private static int right = 0;
    private static int wrong = 0;

    private Check() {
    }

    static void due(String what, long got, long want) {
        if (got == want) {
            right++;
        } else {
            wrong++;
            System.out.println("  " + what + " answered " + got + ", due is " + want);
        }
    }

    static void due(String what, double got, double want) {
        due(what, Double.doubleToLongBits(got), Double.doubleToLongBits(want));
    }

    static void isTrue(String what, boolean holds) {
        due(what, holds ? 1 : 0, 1);
    }

    /** The call throws just this exception and changes nothing. */
    static void refused(CheeseRota x, String what, Class<? extends Exception> due, LongSupplier call) {
        long before = fingerprint(x);
        String got = "nothing";
        try {
            call.getAsLong();
        } catch (RuntimeException e) {
            got = e.getClass().getSimpleName();
        }
        if (!got.equals(due.getSimpleName())) {
            wrong++;
            System.out.println("  " + what + " threw " + got + ", due is " + due.getSimpleName());
        } else {
            right++;
        }
        due("state behind " + what, fingerprint(x), before);
    }

    /** The call answers this and changes nothing. */
    static void dueWithoutChange(CheeseRota x, String what, LongSupplier call, long want) {
        long before = fingerprint(x);
        due(what, call.getAsLong(), want);
        due("state behind " + what, fingerprint(x), before);
    }

    static void noSuch(CheeseRota x, String what, LongSupplier call) {
        refused(x, what, IndexOutOfBoundsException.class, call);
    }

    static void badArgument(CheeseRota x, String what, LongSupplier call) {
        refused(x, what, IllegalArgumentException.class, call);
    }

    static void badState(CheeseRota x, String what, LongSupplier call) {
        refused(x, what, IllegalStateException.class, call);
    }

    static long fingerprint(CheeseRota x) {
        long sum = x.digest();
        for (int cellar = 0; cellar < x.count(1); cellar++) {
            for (int place = 0; place < 10; place++) {
                sum = sum * 31 + x.at(cellar, place);
            }
        }
        return sum;
    }

    static void end(String test) {
        System.out.println(test + ": " + right + " right, " + wrong + " wrong");
        if (wrong != 0 || right == 0) {
            System.exit(1);
        }
    }
}
