/** Compares answers with those that are due, and tells every one that differs. */
final class Check {
    interface Call {
        long run();
    }

    private int wrong;
    private int seen;

    void due(String what, long got, long want) {
        seen++;
        if (got != want) {
            wrong++;
            System.out.println(what + " answered " + got + ", due is " + want);
        }
    }

    void throwsIllegalArgument(String what, Call call) {
        thrown(what, IllegalArgumentException.class, call);
    }

    void throwsIllegalState(String what, Call call) {
        thrown(what, IllegalStateException.class, call);
    }

    void throwsIndexOutOfBounds(String what, Call call) {
        thrown(what, IndexOutOfBoundsException.class, call);
    }

    /** The very class: one below it would be the machine's own. */
    void thrown(String what, Class<?> want, Call call) {
        seen++;
        Class<?> got = null;
        try {
            call.run();
        } catch (RuntimeException e) {
            got = e.getClass();
        }
        if (got != want) {
            wrong++;
            System.out.println(what + " throws " + got + ", due is " + want);
        }
    }

    /** The last call of a test. */
    void end() {
        System.out.println(seen + " answers, " + wrong + " not as due");
        if (wrong != 0 || seen == 0) {
            System.exit(1);
        }
    }
}
