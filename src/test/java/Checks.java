/** Counts and prints the answers that are not as due. */
final class Checks {
    interface Call {
        long run();
    }

    interface Ask {
        long run(int index);
    }

    private int wrong = 0;
    private int made = 0;
    private String test = "";

    /** Names the test whose checks follow. */
    void begin(String name) {
        test = name + ": ";
    }

    int made() {
        return made;
    }

    int wrong() {
        return wrong;
    }

    private void count(String what, boolean right, Object got, Object want) {
        made++;
        if (!right) {
            wrong++;
            System.out.println(test + what + " answered " + got + ", due is " + want);
        }
    }

    void due(String what, long got, long want) {
        count(what, got == want, got, want);
    }

    void due(String what, double got, double want) {
        due(what, Double.doubleToLongBits(got), Double.doubleToLongBits(want));
    }

    /** Asks for several numbers at once: the call gets each index of what is due. */
    void row(String what, Ask ask, int... want) {
        for (int i = 0; i < want.length; i++) {
            due(what + " " + i, ask.run(i), want[i]);
        }
    }

    /** The two answer the same to all that can be asked. */
    void same(String what, FreshDisks got, FreshDisks want) {
        due(what, got.digest(), want.digest());
    }

    /** The two calls answer the same, or throw the same. */
    void same(String what, Call ours, Call due) {
        Object got = outcome(ours);
        Object want = outcome(due);
        count(what, got.equals(want), got, want);
    }

    void isTrue(String what, boolean is) {
        due(what, is ? 1 : 0, 1);
    }

    /** The call must throw exactly this class, and leave the object's digest as it was. */
    void thrown(String what, FreshDisks x, Class<?> want, Call call) {
        long before = x.digest();
        Object got = outcome(call);
        count(what, got == want, got, want);
        due(what + " leaves the digest", x.digest(), before);
    }

    void index(String what, FreshDisks x, Call call) {
        thrown(what, x, IndexOutOfBoundsException.class, call);
    }

    void argument(String what, FreshDisks x, Call call) {
        thrown(what, x, IllegalArgumentException.class, call);
    }

    void state(String what, FreshDisks x, Call call) {
        thrown(what, x, IllegalStateException.class, call);
    }

    /** The answer as a Long, or the class of what was thrown. */
    static Object outcome(Call call) {
        try {
            return call.run();
        } catch (RuntimeException e) {
            return e.getClass();
        }
    }

    void end() {
        System.out.println(made + " checks, " + wrong + " wrong");
        if (wrong != 0) {
            System.exit(1);
        }
    }
}
