/** Counts what is due and what is not, for the tests of this project. */
final class Checks {
    interface Call {
        int answer();
    }

    private int right = 0;
    private int wrong = 0;

    void due(String what, long got, long want) {
        if (got == want) {
            right++;
        } else {
            wrong++;
            System.out.println(what + " answered " + got + ", due is " + want);
        }
    }

    /** The call throws just this exception, by its own class. */
    void refused(String what, Class<? extends RuntimeException> want, Call call) {
        String got;
        try {
            got = "" + call.answer();
        } catch (RuntimeException e) {
            got = e.getClass().getName();
        }
        if (got.equals(want.getName())) {
            right++;
        } else {
            wrong++;
            System.out.println(what + " answered " + got + ", due is " + want.getName());
        }
    }

    int count() {
        return right + wrong;
    }

    void end(String test) {
        System.out.println(test + ": " + right + " as due, " + wrong + " not as due");
        if (wrong != 0 || right == 0) {
            System.exit(1);
        }
    }
}
