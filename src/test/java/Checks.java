/** Counts tests, and prints each check whose answer is not the one that is due. */
final class Checks {
    /** A test of its own; what it prints begins with its name. */
    interface Test {
        void run();
    }

    /** A call that should be refused. */
    interface Call {
        void run();
    }

    /** A call of which one argument is left open. */
    interface Open {
        void of(int number);
    }

    private int passed = 0;
    private int failed = 0;
    private String name = "";
    private boolean wrong = false;

    void test(String testName, Test test) {
        name = testName;
        wrong = false;
        try {
            test.run();
        } catch (RuntimeException e) {
            complain("threw " + e);
        }
        if (wrong) {
            failed++;
        } else {
            passed++;
        }
    }

    void due(String what, long want, long got) {
        if (want != got) {
            complain(what + " answered " + got + ", due is " + want);
        }
    }

    void isTrue(String what, boolean holds) {
        if (!holds) {
            complain(what + " does not hold");
        }
    }

    /** The call has to throw just this exception, and to change nothing that can be told. */
    void refused(SquopPiles game, Class<? extends RuntimeException> want, String what, Call call) {
        long before = game.digest();
        Class<?> got = null;
        try {
            call.run();
        } catch (RuntimeException e) {
            got = e.getClass();
        }
        if (got != want) {
            complain(what + " threw " + (got == null ? "nothing" : got.getName()) + ", due is " + want.getName());
        }
        if (before != game.digest()) {
            complain(what + " changed something");
        }
    }

    void noIndex(SquopPiles game, String what, Call call) {
        refused(game, IndexOutOfBoundsException.class, what, call);
    }

    void noArgument(SquopPiles game, String what, Call call) {
        refused(game, IllegalArgumentException.class, what, call);
    }

    void noState(SquopPiles game, String what, Call call) {
        refused(game, IllegalStateException.class, what, call);
    }

    /** One below the least number, one above the greatest, and the ends of all numbers are no such index. */
    void noIndexBeyond(SquopPiles game, int least, int most, Open call) {
        beyond(game, IndexOutOfBoundsException.class, least, most, call);
    }

    /** One below the least number, one above the greatest, and the ends of all numbers are out of range. */
    void noArgumentBeyond(SquopPiles game, int least, int most, Open call) {
        beyond(game, IllegalArgumentException.class, least, most, call);
    }

    private void beyond(SquopPiles game, Class<? extends RuntimeException> want, int least, int most, Open call) {
        for (int number : new int[] {least - 1, most + 1, Integer.MIN_VALUE, Integer.MAX_VALUE}) {
            refused(game, want, "the number " + number, () -> call.of(number));
        }
    }

    private void complain(String text) {
        wrong = true;
        System.out.println(name + ": " + text);
    }

    int failedTests() {
        return failed;
    }

    String summary() {
        return passed + " passed, " + failed + " failed";
    }
}
