/** Counts and prints the answers that are not as due. */
final class Checks {
    interface Call {
        long run();
    }

    private int wrong = 0;
    private int made = 0;

    void due(String what, long got, long want) {
        made++;
        if (got != want) {
            wrong++;
            System.out.println(what + " answered " + got + ", due is " + want);
        }
    }

    void due(String what, double got, double want) {
        due(what, Double.doubleToLongBits(got), Double.doubleToLongBits(want));
    }

    void isTrue(String what, boolean is) {
        due(what, is ? 1 : 0, 1);
    }

    /** The call must throw exactly this class, and leave the object's digest as it was. */
    void thrown(String what, FreshDisks x, Class<?> want, Call call) {
        long before = x.digest();
        Object got = outcome(call);
        made++;
        if (got != want) {
            wrong++;
            System.out.println(what + " answered " + got + ", due is " + want);
        }
        due(what + " leaves the digest", x.digest(), before);
    }

    void index(String what, FreshDisks x, Call call) {
        thrown(what, x, IndexOutOfBoundsException.class, call);
    }

    void argument(String what, FreshDisks x, Call call) {
        thrown(what, x, IllegalArgumentException.class, call);
    }

    void state(String what, FreshDisks x, Call call) {
        thrown(what, x, IllegalStateException.class, call);
    }

    /** The answer as a Long, or the class of what was thrown. */
    static Object outcome(Call call) {
        try {
            return call.run();
        } catch (RuntimeException e) {
            return e.getClass();
        }
    }

    void end() {
        System.out.println(made + " checks, " + wrong + " wrong");
        if (wrong != 0) {
            System.exit(1);
        }
    }
}
