/** Counts what a test checks, prints what is wrong, and ends the test with exit code 1 if something was. */
final class Checks {
    static final Class<? extends RuntimeException> INDEX = IndexOutOfBoundsException.class;
    static final Class<? extends RuntimeException> ARGUMENT = IllegalArgumentException.class;
    static final Class<? extends RuntimeException> STATE = IllegalStateException.class;
    static final Class<? extends RuntimeException> ELEMENT = java.util.NoSuchElementException.class;

    private final String test;
    private int promise = 0;
    private int checked = 0;
    private int wrong = 0;

    Checks(String test) {
        this.test = test;
    }

    /** The checks that follow are of this promise. */
    void promise(int number) {
        promise = number;
    }

    void equal(String what, Object got, Object due) {
        checked++;
        if (!due.equals(got)) {
            wrong++;
            System.out.println(test + ", promise " + promise + ": " + what + " answered " + got + ", due is " + due);
        }
    }

    /** The call throws exactly this exception, not one of a class below it. */
    void throwing(String what, Class<? extends RuntimeException> due, Runnable call) {
        Object got = "nothing thrown";
        try {
            call.run();
        } catch (RuntimeException e) {
            got = e.getClass();
        }
        equal(what, got, due);
    }

    void end() {
        System.out.println(test + ": " + checked + " checked, " + wrong + " wrong");
        if (wrong != 0 || checked == 0) {
            System.exit(1);
        }
    }
}
