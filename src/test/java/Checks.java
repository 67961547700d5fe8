/** Counts what a test checks, prints what is wrong, and ends the test with exit code 1 if something was. */
final class Checks {
    private static final int MOST_PRINTED = 40;

    static final Class<? extends RuntimeException> INDEX = IndexOutOfBoundsException.class;
    static final Class<? extends RuntimeException> ARGUMENT = IllegalArgumentException.class;
    static final Class<? extends RuntimeException> STATE = IllegalStateException.class;
    static final Class<? extends RuntimeException> ELEMENT = java.util.NoSuchElementException.class;

    private final String test;
    private int promise = 0;
    private int checked = 0;
    private int wrong = 0;

    Checks(String test) {
        this.test = test;
    }

    /** The checks that follow are of this promise. */
    void promise(int number) {
        promise = number;
    }

    void equal(String what, Object got, Object due) {
        checked++;
        if (!due.equals(got)) {
            wrong++;
            if (wrong <= MOST_PRINTED) {
                System.out.println(test + ", promise " + promise + ": " + what + " answered " + got + ", due is " + due);
            }
        }
    }

    /** The call throws exactly this exception, not one of a class below it. */
    void throwing(String what, Class<? extends RuntimeException> due, Runnable call) {
        Class<?> got = null;
        try {
            call.run();
        } catch (RuntimeException e) {
            got = e.getClass();
        }
        equal(what, nameOf(got), nameOf(due));
    }

    private static String nameOf(Class<?> thrown) {
        return thrown == null ? "nothing thrown" : thrown.getName();
    }

    /** The call answers, whatever it is. */
    void answering(String what, Runnable call) {
        throwing(what, null, call);
    }

    void end() {
        System.out.println(test + ": " + checked + " checked, " + wrong + " wrong");
        if (wrong != 0 || checked == 0) {
            System.exit(1);
        }
    }
}
