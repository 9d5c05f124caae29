/** What the tests share: they tell each answer that is not the one due, and end with exit code 1 if there was one. */
final class Check {
    static final Class<IndexOutOfBoundsException> INDEX = IndexOutOfBoundsException.class;
    static final Class<IllegalArgumentException> ARGUMENT = IllegalArgumentException.class;
    static final Class<IllegalStateException> STATE = IllegalStateException.class;

    private static int count = 0;
    private static int wrong = 0;

    private Check() {
    }

    static void due(String what, long got, long want) {
        say(got == want, what + " answered " + got + ", due is " + want);
    }

    static void due(String what, boolean got, boolean want) {
        say(got == want, what + " answered " + got + ", due is " + want);
    }

    static void due(String what, String got, String want) {
        say(want.equals(got), what + " is " + got + ", due is " + want);
    }

    /** The very class is due: a class below it, as the machine's own are, is wrong. */
    static void dueThrow(String what, Class<? extends RuntimeException> want, Runnable call) {
        String got = "nothing";
        try {
            call.run();
        } catch (RuntimeException e) {
            got = e.getClass().getName();
        }
        say(got.equals(want.getName()), what + " threw " + got + ", due is " + want.getName());
    }

    private static void say(boolean right, String text) {
        count++;
        if (!right) {
            wrong++;
            System.out.println("  " + text);
        }
    }

    static void end() {
        System.out.println("  " + count + " answers looked at, " + wrong + " wrong");
        if (wrong != 0 || count == 0) {
            System.exit(1);
        }
    }
}
