/** Counts the checks of one test program, and prints each that failed. */
final class Checks {
    interface Deed {
        void run();
    }

    private final String name;
    private int passed = 0;
    private int failed = 0;

    Checks(String name) {
        this.name = name;
    }

    void is(String what, Object got, Object want) {
        if (want.equals(got)) {
            passed++;
        } else {
            failed++;
            System.out.println(name + ": " + what + " answered " + got + ", due is " + want);
        }
    }

    void is(String what, long got, long want) {
        is(what, (Object) got, (Object) want);
    }

    void is(String what, boolean got, boolean want) {
        is(what, (Object) got, (Object) want);
    }

    /** The very class counts: the machine's own exceptions are often subclasses of those that are due. */
    void isThrown(String what, Class<? extends RuntimeException> want, Deed deed) {
        Object got = "nothing thrown";
        try {
            deed.run();
        } catch (RuntimeException thrown) {
            got = thrown.getClass();
        }
        is(what, got, want);
    }

    /** As isThrown, and all that can be told of the object is the same as without that call. */
    void isRefused(String what, Class<? extends RuntimeException> want, Trial x, Deed deed) {
        isThrown(what, want, deed);
        is(what + " changes nothing", x.changeByLastCall(), "");
    }

    /** The call answers, and all that can be told of the object is the same as without that call. */
    void isAsked(String what, Trial x, Deed deed) {
        isAnswered(what, deed);
        is(what + " changes nothing", x.changeByLastCall(), "");
    }

    void isAnswered(String what, Deed deed) {
        Object got = "an answer";
        try {
            deed.run();
        } catch (RuntimeException thrown) {
            got = thrown.getClass();
        }
        is(what, got, "an answer");
    }

    void isNoSuch(String what, Trial x, Deed deed) {
        isRefused(what, IndexOutOfBoundsException.class, x, deed);
    }

    void isBadArgument(String what, Trial x, Deed deed) {
        isRefused(what, IllegalArgumentException.class, x, deed);
    }

    void isBadState(String what, Trial x, Deed deed) {
        isRefused(what, IllegalStateException.class, x, deed);
    }

    void end() {
        System.out.println(name + ": " + passed + " passed, " + failed + " failed");
        if (failed > 0) {
            System.exit(1);
        }
    }
}
